/** Each promise of the document by its number, with answers that were worked out by hand. */
public final class PromisesTest {
    private static final int UNKNOWN = -1, BAD = -2, LATE = -3, FULL = -4, NONE = -9;
    private static final long SUM = 1000000000L;
    private static int wrong = 0;

    private static void due(int promise, String call, long got, long want) {
        if (got != want) {
            wrong++;
            System.out.println("promise " + promise + ": " + call + " answered " + got + ", due is " + want);
        }
    }

    private static void text(PotAndFine x, String text) {
        x.wipe();
        for (int i = 0; i < text.length(); i++) {
            x.write(1, text.charAt(i));
        }
    }

    private static PotAndFine of(String rule, String group) {
        PotAndFine x = new PotAndFine();
        text(x, rule);
        due(5, "rule() of " + rule, x.rule() < 0 ? 0 : 1, 1);
        text(x, group);
        due(6, "group() of " + group, x.group() < 0 ? 0 : 1, 1);
        return x;
    }

    private static void fault(boolean group, String text, int want) {
        PotAndFine x = new PotAndFine();
        text(x, text);
        due(4, "fault(" + group + ") of " + text, x.fault(group), want);
        int answer = group ? x.group() : x.rule();
        due(group ? 6 : 5, "whether " + text + " is taken", answer == LATE ? 0 : 1, want == NONE ? 1 : 0);
    }

    public static void main(String[] args) {
        aNewObject();
        texts();
        faults();
        rules();
        groups();
        tells();
        sends();
        puts();
        learners();
        payments();
        vengeance();
        holdings();
        comesTo();
        leaders();
        leavingOut();
        partings();
        replies();
        bookPlaces();
        bookSorts();
        copies();
        slots();
        System.out.println(wrong == 0 ? "all promises hold" : wrong + " answers are not as due");
        if (wrong != 0) {
            System.exit(1);
        }
    }

    private static void aNewObject() {
        PotAndFine x = new PotAndFine();
        due(1, "UNKNOWN", PotAndFine.UNKNOWN, UNKNOWN);
        due(1, "BAD", PotAndFine.BAD, BAD);
        due(1, "LATE", PotAndFine.LATE, LATE);
        due(1, "FULL", PotAndFine.FULL, FULL);
        due(1, "NONE", PotAndFine.NONE, NONE);
        due(1, "count(0)", x.count(0), 2);
        for (int what = 1; what <= 4; what++) {
            due(1, "count(" + what + ")", x.count(what), 0);
        }
        for (int p = 0; p < 2; p++) {
            due(1, "person(p, 0)", x.person(p, 0), 1);
            due(1, "person(p, 1)", x.person(p, 1), 0);
            due(1, "person(p, 2)", x.person(p, 2), 0);
            due(1, "holds(p, 39)", x.holds(p, 39), SUM + 40 * 12000);
        }
        int[] rule = {20, 16, 0, 1};
        for (int what = 0; what < 4; what++) {
            due(1, "ruled(" + what + ")", x.ruled(what), rule[what]);
        }
    }

    private static void texts() {
        PotAndFine x = new PotAndFine();
        due(2, "write(0, ..)", x.write(0, 65), BAD);
        due(2, "write(9, ..)", x.write(9, 65), BAD);
        due(2, "write(-1, ..)", x.write(-1, 65), BAD);
        due(2, "write of the lowest 2", x.write(2, 0x7777777777775A5AL), 2);
        due(2, "group() of ZZ", x.group(), 2);
        due(2, "write(3, Z09 with L ahead)", x.write(3, 0x4C5A4C39L), 5);
        due(2, "group() of ZZZL9", x.group(), 4);
        due(2, "the highest comes first", x.person(3, 0), 6);
        due(2, "write(8, -1)", x.write(8, -1L), 13);
        due(2, "fault behind ZZZL9", x.fault(true), 5);
        for (int i = 0; i < 3; i++) {
            x.write(8, 0);
        }
        due(2, "count(4)", x.count(4), 37);
        due(2, "write(4, 0): 41", x.write(4, 0), FULL);
        due(2, "nothing came", x.count(4), 37);
        due(2, "write(3, 0): 40", x.write(3, 0), 40);
        due(2, "write(9, 0), BAD is told first", x.write(9, 0), BAD);
        due(2, "write(1, 0)", x.write(1, 0), FULL);
        due(3, "wipe()", x.wipe(), 40);
        due(3, "wipe() again", x.wipe(), 0);
        due(3, "fault(true) of nothing", x.fault(true), 0);
    }

    private static void faults() {
        fault(false, "", NONE);
        fault(false, "E01", NONE);
        fault(false, "E20", NONE);
        fault(false, "E", 1);
        fault(false, "E0", 2);
        fault(false, "E00", 2);
        fault(false, "E21", 2);
        fault(false, "E3", 1);
        fault(false, "E2:", 2);
        fault(false, "E/", 1);
        fault(false, "M00", NONE);
        fault(false, "M60", NONE);
        fault(false, "M61", 2);
        fault(false, "M7", 1);
        fault(false, "F0", NONE);
        fault(false, "F9", NONE);
        fault(false, "F99", 2);
        fault(false, "C0", 1);
        fault(false, "C1", NONE);
        fault(false, "C9F3M16E20", NONE);
        fault(false, "C9F3M16E20E", 10);
        fault(false, "F3F", 2);
        fault(false, "E05E05", 3);
        fault(false, "e05", 0);
        fault(false, "Z", 0);
        fault(true, "", 0);
        fault(true, "Z", 1);
        fault(true, "P20", 3);
        fault(true, "ZZ", NONE);
        fault(true, "ZZZZZZ", NONE);
        fault(true, "ZZZZZZZ", 6);
        fault(true, "ZZZZZZ!", 6);
        fault(true, "P00P20", NONE);
        fault(true, "P21", 2);
        fault(true, "P3", 1);
        fault(true, "ZP2", 3);
        fault(true, "G99S00V90L9M0", NONE);
        fault(true, "G9", 2);
        fault(true, "G9Z", 2);
        fault(true, "GZ", 1);
        fault(true, "ZM", 2);
        fault(true, "ZL", 2);
        fault(true, "ZLZ", 2);
        fault(true, "ZE20", 1);
        fault(true, "ZZ" + (char) 233, 2);
    }

    private static void rules() {
        PotAndFine x = new PotAndFine();
        text(x, "C4M05");
        due(5, "rule()", x.rule(), 2);
        due(7, "ruled(0)", x.ruled(0), 20);
        due(7, "ruled(1)", x.ruled(1), 5);
        due(7, "ruled(2)", x.ruled(2), 0);
        due(7, "ruled(3)", x.ruled(3), 4);
        text(x, "F7E11");
        due(5, "rule()", x.rule(), 2);
        due(7, "ruled(0)", x.ruled(0), 11);
        due(7, "ruled(1), not told any more", x.ruled(1), 16);
        due(7, "ruled(2)", x.ruled(2), 7);
        due(7, "ruled(3), not told any more", x.ruled(3), 1);
        due(11, "fine(9)", x.fine(9), 7);
        due(11, "ruled(2)", x.ruled(2), 9);
        due(11, "fine(10)", x.fine(10), BAD);
        due(11, "fine(-1)", x.fine(-1), BAD);
        due(11, "fine(0)", x.fine(0), 9);
        due(5, "rule() again", x.rule(), 2);
        due(5, "ruled(2) as the text tells", x.ruled(2), 7);
        text(x, "F");
        due(5, "rule() with a fault", x.rule(), LATE);
        due(5, "nothing is changed", x.ruled(0), 11);
        due(7, "ruled(4)", x.ruled(4), BAD);
        due(7, "ruled(-1)", x.ruled(-1), BAD);
        text(x, "");
        due(5, "rule() of nothing", x.rule(), 0);
        due(5, "ruled(0)", x.ruled(0), 20);
        due(5, "ruled(2)", x.ruled(2), 0);
    }

    private static void groups() {
        PotAndFine x = of("", "P07ZM3G12S34V56");
        int[][] people = {{0, 7, 0}, {1, 0, 0}, {2, 3, 0}, {3, 1, 2}, {4, 3, 4}, {5, 5, 6}};
        for (int p = 0; p < 6; p++) {
            for (int what = 0; what < 3; what++) {
                due(8, "person(" + p + ", " + what + ")", x.person(p, what), people[p][what]);
            }
        }
        due(8, "person(6, 3), UNKNOWN is told first", x.person(6, 3), UNKNOWN);
        due(8, "person(-1, 0)", x.person(-1, 0), UNKNOWN);
        due(8, "person(5, 3)", x.person(5, 3), BAD);
        due(8, "person(5, -1)", x.person(5, -1), BAD);
        x.tell(0, 0, 1);
        x.send(1, 5);
        x.note(0, 0, 4);
        x.keep(0);
        x.keep(1);
        text(x, "L8");
        due(6, "group() with a fault", x.group(), LATE);
        due(6, "what was told stays", x.count(1), 1);
        due(6, "what was kept stays", x.again(1), 1);
        text(x, "L8ZZ");
        due(6, "group()", x.group(), 3);
        due(6, "person(0, 0)", x.person(0, 0), 6);
        due(6, "person(0, 1)", x.person(0, 1), 8);
        due(6, "person(0, 2)", x.person(0, 2), 0);
        due(6, "person(2, 2), an old anger", x.person(2, 2), 0);
        due(6, "nothing is told", x.count(1), 0);
        due(6, "none is out", x.count(2), 0);
        due(6, "the book stays", x.count(3), 1);
        due(6, "again(0): what was kept is gone", x.again(0), LATE);
        due(6, "again(1)", x.again(1), LATE);
        due(8, "person(3, 0)", x.person(3, 0), UNKNOWN);
        due(6, "the rule stays", x.ruled(0), 20);
    }

    private static void tells() {
        PotAndFine x = of("E10", "ZP05");
        due(9, "tell(0, 3, 7)", x.tell(0, 3, 7), NONE);
        due(9, "tell(0, 3, 20)", x.tell(0, 3, 20), 7);
        due(9, "not more than E is put", x.put(0, 3), 10);
        due(9, "count(1)", x.count(1), 1);
        due(9, "tell(0, 3, 0)", x.tell(0, 3, 0), 20);
        due(9, "count(1), 0 is told too", x.count(1), 1);
        due(9, "tell(0, 3, NONE)", x.tell(0, 3, NONE), 0);
        due(9, "tell(0, 3, NONE) again", x.tell(0, 3, NONE), NONE);
        due(9, "count(1)", x.count(1), 0);
        due(9, "tell(1, 39, 0)", x.tell(1, 39, 0), NONE);
        due(9, "put(1, 39)", x.put(1, 39), 0);
        due(9, "put(1, 38)", x.put(1, 38), 5);
        due(9, "tell(2, 0, 21)", x.tell(2, 0, 21), UNKNOWN);
        due(9, "tell(-1, 0, 0)", x.tell(-1, 0, 0), UNKNOWN);
        due(9, "tell(0, 40, 21)", x.tell(0, 40, 21), UNKNOWN);
        due(9, "tell(0, -1, 0)", x.tell(0, -1, 0), UNKNOWN);
        due(9, "tell(0, 0, 21)", x.tell(0, 0, 21), BAD);
        due(9, "tell(0, 0, -1)", x.tell(0, 0, -1), BAD);
        due(9, "nothing is changed", x.put(0, 0), 0);
    }

    private static void sends() {
        PotAndFine x = of("", "P10P20Z");
        due(10, "send(3, 41)", x.send(3, 41), UNKNOWN);
        due(10, "send(-1, 0)", x.send(-1, 0), UNKNOWN);
        due(10, "send(0, 41)", x.send(0, 41), BAD);
        due(10, "send(0, -1)", x.send(0, -1), BAD);
        due(10, "send(0, 39)", x.send(0, 39), 40);
        due(10, "send(1, -1), BAD is told first", x.send(1, -1), BAD);
        due(10, "send(1, 39)", x.send(1, 39), LATE);
        due(10, "send(1, 40)", x.send(1, 40), 40);
        due(10, "send(0, 0)", x.send(0, 0), 39);
        due(10, "count(2)", x.count(2), 1);
        due(15, "here(0)", x.here(0), 2);
        due(12, "put(0, 0)", x.put(0, 0), NONE);
        due(16, "holds(0, 39), out always", x.holds(0, 39), SUM);
        due(10, "send(0, 40)", x.send(0, 40), 0);
        due(10, "count(2)", x.count(2), 0);
        due(15, "here(0)", x.here(0), 3);
        x.send(0, 2);
        due(15, "here(1)", x.here(1), 3);
        due(15, "here(2)", x.here(2), 2);
        due(15, "here(40)", x.here(40), UNKNOWN);
        due(15, "here(-1)", x.here(-1), UNKNOWN);
        due(14, "pot(1)", x.pot(1), 30);
        due(14, "pot(2)", x.pot(2), 20);
        due(14, "pot(40)", x.pot(40), UNKNOWN);
        due(14, "pot(-1)", x.pot(-1), UNKNOWN);
        // With three: 30 coins make 28800 parts, 9600 to each.
        due(16, "holds(0, 1)", x.holds(0, 1), SUM + 2 * (6000 + 9600));
        due(16, "holds(0, 39)", x.holds(0, 39), SUM + 2 * (6000 + 9600));
        // With two: 20 coins make 19200 parts, 9600 to each.
        due(16, "holds(2, 2)", x.holds(2, 2), SUM + 3 * (12000 + 9600));
    }

    private static void puts() {
        PotAndFine x = of("E15", "M0M2P20Z");
        due(12, "put(0, 0), E by two", x.put(0, 0), 7);
        due(12, "put(1, 0)", x.put(1, 0), 7);
        due(12, "put(2, 0), E at most", x.put(2, 0), 15);
        due(12, "put(3, 0)", x.put(3, 0), 0);
        due(12, "put(0, 1): 22 by three", x.put(0, 1), 7);
        due(12, "put(1, 1): 22 by three, less 2", x.put(1, 1), 5);
        due(12, "put(0, 2): 20 by three", x.put(0, 2), 6);
        due(12, "put(1, 2)", x.put(1, 2), 5);
        due(12, "put(4, 0)", x.put(4, 0), UNKNOWN);
        due(12, "put(-1, 0)", x.put(-1, 0), UNKNOWN);
        due(12, "put(0, 40)", x.put(0, 40), UNKNOWN);
        due(12, "put(0, -1)", x.put(0, -1), UNKNOWN);
        x.send(2, 2);
        due(12, "put(0, 2): who is out from this round on does not count", x.put(0, 2), 2);
        PotAndFine low = of("", "M9Z");
        due(12, "put(0, 1), never less than 0", low.put(0, 1), 0);
        PotAndFine told = of("", "M0Z");
        told.tell(1, 0, 20);
        due(12, "put(0, 1): by what was told", told.put(0, 1), 20);
        due(12, "put(0, 2)", told.put(0, 2), 0);
    }

    private static void learners() {
        // The mean of 10, 20, 20 is 16; 6 short times 4 by 9 is 2; F 3.
        PotAndFine x = of("F3", "L4G04P20");
        x.tell(1, 0, 20);
        due(13, "paid(1, 0, 0)", x.paid(1, 0, 0), 2);
        due(12, "put(0, 1): 10 and 6", x.put(0, 1), 16);
        // 16, 15, 20: the mean is 17, 1 short times 4 by 9 is 0.
        due(12, "put(1, 1)", x.put(1, 1), 15);
        due(13, "paid(1, 0, 1)", x.paid(1, 0, 1), 0);
        due(12, "put(0, 2): less d", x.put(0, 2), 12);
        x.fine(9);
        due(12, "put(0, 1), E at most", x.put(0, 1), 20);
        x.fine(0);
        due(12, "put(0, 1) without fines", x.put(0, 1), 6);
        due(12, "put(0, 3), 0 at least", x.put(0, 3), 0);
        x.fine(3);
        x.send(1, 1);
        due(12, "put(0, 1): by one that is out now", x.put(0, 1), 16);
    }

    private static void payments() {
        PotAndFine x = of("F1C2", "G09S05P20ZP11P20");
        // 10, 10, 20, 0, 11, 20: the mean is 71 by six, 11.
        due(13, "paid(0, 1, 0): 1 short", x.paid(0, 1, 0), 1);
        due(13, "paid(0, 3, 0): 11 short, 9 at most", x.paid(0, 3, 0), 9);
        due(13, "paid(0, 4, 0): not less than the mean", x.paid(0, 4, 0), 0);
        due(13, "paid(0, 2, 0)", x.paid(0, 2, 0), 0);
        due(13, "paid(1, 2, 0): 9 times 5 by 9", x.paid(1, 2, 0), 5);
        due(13, "paid(1, 5, 0): the least of like ones alone", x.paid(1, 5, 0), 0);
        due(13, "paid(1, 3, 0)", x.paid(1, 3, 0), 0);
        for (int p = 2; p < 6; p++) {
            due(13, "paid(" + p + ", 0, 0)", x.paid(p, 0, 0), 0);
        }
        due(13, "paid(0, 6, 0)", x.paid(0, 6, 0), UNKNOWN);
        due(13, "paid(6, 0, 0)", x.paid(6, 0, 0), UNKNOWN);
        due(13, "paid(6, 6, 0)", x.paid(6, 6, 0), UNKNOWN);
        due(13, "paid(0, 0, 40)", x.paid(0, 0, 40), UNKNOWN);
        due(13, "paid(0, 1, -1)", x.paid(0, 1, -1), UNKNOWN);
        due(13, "paid(0, 0, 0)", x.paid(0, 0, 0), BAD);
        due(18, "lost(0, 0): 10 paid, 2 for each", x.lost(0, 0), 20);
        due(18, "lost(1, 0): 5 paid, 1 paid to fine it", x.lost(1, 0), 11);
        due(18, "lost(2, 0)", x.lost(2, 0), 5);
        due(18, "lost(3, 0)", x.lost(3, 0), 9);
        due(18, "lost(4, 0)", x.lost(4, 0), 0);
        // From ROUND 1 on G and S put 12, the mean is 12, and P11 is 1 short.
        due(18, "lost(4, 39)", x.lost(4, 39), 39);
        due(18, "lost(6, 0)", x.lost(6, 0), UNKNOWN);
        due(18, "lost(0, 40)", x.lost(0, 40), UNKNOWN);
        due(18, "lost(0, -1)", x.lost(0, -1), UNKNOWN);
        x.send(3, 1);
        due(18, "lost(3, 39), out from 1 on", x.lost(3, 39), 9);
        due(13, "paid(0, 3, 1), out", x.paid(0, 3, 1), 0);
        x.fine(0);
        due(13, "paid(0, 3, 0) without fines", x.paid(0, 3, 0), 0);
        due(13, "paid(1, 2, 0) without fines", x.paid(1, 2, 0), 0);
        due(18, "lost(0, 39) without fines", x.lost(0, 39), 0);
        PotAndFine own = of("F1", "S09Z");
        due(13, "paid(0, 1, 0): not itself, and the other one put less", own.paid(0, 1, 0), 0);
    }

    private static void vengeance() {
        // 0 and 20: the mean is 10, so G pays 9 for V in ROUND 0; V does not pay for G then.
        PotAndFine x = of("F1", "V09G09");
        x.tell(0, 0, 0);
        x.tell(1, 0, 20);
        x.tell(0, 1, 10);
        x.tell(1, 1, 10);
        due(13, "paid(1, 0, 0)", x.paid(1, 0, 0), 9);
        due(13, "paid(0, 1, 0): nothing ahead of it", x.paid(0, 1, 0), 0);
        due(13, "paid(0, 1, 1): what was paid to fine it", x.paid(0, 1, 1), 9);
        due(13, "paid(1, 0, 1)", x.paid(1, 0, 1), 0);
        x.tell(0, 1, 14);
        due(13, "paid(0, 1, 1): 2 and 9, 9 at most", x.paid(0, 1, 1), 9);
        x.tell(0, 0, 14);
        // 14 and 20: the mean is 17, so G pays 3; in ROUND 1 14 and 10: 2 and 3.
        due(13, "paid(0, 1, 1): 2 and 3", x.paid(0, 1, 1), 5);
        PotAndFine y = of("F1", "V09G09P10P10");
        y.tell(0, 0, 0);
        y.tell(0, 1, 10);
        due(13, "paid(1, 0, 0)", y.paid(1, 0, 0), 7);
        due(13, "paid(0, 1, 1): 7 paid back and 3 short, 9 at most", y.paid(0, 1, 1), 9);
        y.send(1, 1);
        due(13, "paid(0, 1, 1): it is out", y.paid(0, 1, 1), 0);
    }

    private static void holdings() {
        // 0, 10: the mean is 5, G pays 5; the pot of 10 makes 9600 parts, 4800 to each.
        PotAndFine x = of("F3C2", "ZG09");
        due(16, "holds(0, 0)", x.holds(0, 0), SUM + 12000 + 4800 - 600 * 3 * 5);
        due(16, "holds(1, 0)", x.holds(1, 0), SUM + 6000 + 4800 - 600 * 2 * 5);
        due(17, "all(0, false)", x.all(0, false), SUM + 7800 + 4800);
        due(17, "all(0, true)", x.all(0, true), SUM + 12000 + 6000 + 9600);
        due(17, "all(39, true): then nothing is put", x.all(39, true), SUM + 27600 + 39 * 24000);
        due(16, "holds(2, 0)", x.holds(2, 0), UNKNOWN);
        due(16, "holds(-1, 0)", x.holds(-1, 0), UNKNOWN);
        due(16, "holds(0, 40)", x.holds(0, 40), UNKNOWN);
        due(16, "holds(0, -1)", x.holds(0, -1), UNKNOWN);
        due(17, "all(40, false)", x.all(40, false), UNKNOWN);
        due(17, "all(-1, true)", x.all(-1, true), UNKNOWN);
        due(17, "the fine stays", x.ruled(2), 3);
        x.fine(9);
        due(16, "holds(0, 0), less than 0", x.holds(0, 0), SUM + 16800 - 27000);
        PotAndFine out = of("", "P10P10P10");
        out.send(2, 1);
        due(17, "all(1, false), those that are out too", out.all(1, false), SUM + 5 * (6000 + 9600));
    }

    private static void comesTo() {
        PotAndFine x = of("", "L1P02");
        // 12 in ROUND 0; 10 - r and 2: no more than 6 from ROUND 6 on.
        due(19, "fall()", x.fall(), 6);
        due(19, "fall() of ZZ", new PotAndFine().fall(), NONE);
        due(19, "fall(), nothing put in ROUND 1", of("", "M9Z").fall(), 1);
        due(19, "fall() of P01P01", of("", "P01P01").fall(), NONE);
        PotAndFine late = of("", "P05P06");
        late.tell(1, 39, 0);
        due(19, "fall(): 5 of 11", late.fall(), 39);
        late.tell(1, 39, 1);
        due(19, "fall(): 6 of 11", late.fall(), NONE);

        // L is fined by 6 in ROUND 0 (36000 parts are lost) and puts 20 from then on, else 10; G puts 17, 20, 20 ..,
        // else 17. A coin more makes 1200 parts more: 12000 in ROUND 1, then 15600 a ROUND.
        PotAndFine pays = of("F9M30", "L0G09P20P20P20");
        due(12, "put(0, 1)", pays.put(0, 1), 20);
        due(20, "pays()", pays.pays(), 3);
        due(20, "pays() without fines", of("M30", "L0G09P20P20P20").pays(), NONE);
        due(20, "pays() where they are lost", of("F9", "G09Z").pays(), NONE);
        due(21, "vote(0)", pays.vote(0), 0);
        due(21, "vote(39): not L, which puts 10 more", pays.vote(39), 30);
        due(21, "vote(1): not G, which paid 3600 and got 3600", pays.vote(1), 28);
        due(21, "vote(40)", pays.vote(40), UNKNOWN);
        due(21, "vote(-1)", pays.vote(-1), UNKNOWN);

        PotAndFine least = of("", "L0P20P20P20G09");
        // The mean is 16, so G pays 6 for L in ROUND 0: in ROUND 1 L puts 10 and 6 F.
        due(22, "least(1, 17): 10 and 60 and 17", least.least(1, 17), 0);
        due(22, "least(1, 18)", least.least(1, 18), 1);
        due(22, "least(1, 19)", least.least(1, 19), 2);
        least.tell(4, 1, 14);
        due(22, "least(1, 18), just so many", least.least(1, 18), 1);
        least.tell(4, 1, NONE);
        due(22, "least(1, 20)", least.least(1, 20), NONE);
        due(22, "the fine stays", least.ruled(2), 0);
        due(22, "least(0, 0)", least.least(0, 0), 0);
        due(22, "least(40, 21)", least.least(40, 21), UNKNOWN);
        due(22, "least(-1, 0)", least.least(-1, 0), UNKNOWN);
        due(22, "least(0, 21)", least.least(0, 21), BAD);
        due(22, "least(0, -1)", least.least(0, -1), BAD);
    }

    private static void leaders() {
        PotAndFine x = of("", "ZP15P20");
        // By one coin more all get 960 parts for 600: 20 coins more by Z, 5 by P15, none by P20.
        long all = 40L * (36000 + 35 * 360);
        due(23, "leader()", x.leader(), 0);
        due(24, "led()", x.led(), SUM + all + 20 * 360);
        x.tell(0, 0, 19);
        due(23, "leader() where 1 would be more", x.leader(), 1);
        due(24, "led()", x.led(), SUM + all + 19 * 360 + 5 * 360);
        due(23, "nothing is told by it", x.put(1, 0), 15);
        due(23, "count(1)", x.count(1), 1);
        due(23, "leader() of like ones", of("", "P05P05").leader(), 0);
        PotAndFine less = of("M00", "ZP15P20");
        due(23, "leader() where coins are lost", less.leader(), 2);
        due(24, "led()", less.led(), SUM + 40 * (60 - 35) * 600);
    }

    private static void leavingOut() {
        PotAndFine x = of("", "P10ZP20");
        // Without Z 30 coins make 28800 parts, and 10 are left: 34800 a ROUND.
        due(25, "whom()", x.whom(), 1);
        due(26, "without(1)", x.without(1), SUM + 40 * 34800);
        due(26, "without(0)", x.without(0), SUM + 40 * (12000 + 19200));
        due(26, "without(2)", x.without(2), SUM + 40 * (18000 + 9600));
        due(26, "without(3)", x.without(3), UNKNOWN);
        due(26, "without(-1)", x.without(-1), UNKNOWN);
        due(26, "nobody is out by it", x.count(2), 0);
        x.send(1, 20);
        // The others are two behind 20, so only 1 can be left out.
        due(26, "without(0)", x.without(0), LATE);
        due(26, "without(1), instead of when it is", x.without(1), SUM + 40 * 34800);
        due(25, "whom()", x.whom(), 1);
        due(26, "from which it was", x.send(1, 40), 20);
        due(25, "whom() of like ones", of("", "ZZZ").whom(), 0);
        due(25, "whom() of two", new PotAndFine().whom(), LATE);
        due(26, "without(1) of two", new PotAndFine().without(1), LATE);
    }

    private static void partings() {
        due(27, "part() of two", new PotAndFine().part(), LATE);
        due(28, "parted() of two", new PotAndFine().parted(), LATE);
        due(27, "part() of three", of("", "ZZZ").part(), LATE);
        due(27, "part() of five", of("", "ZZZZZ").part(), LATE);
        due(28, "parted() of five", of("", "ZZZZZ").parted(), LATE);
        due(27, "part() of like ones", of("", "ZZZZ").part(), 3);
        due(28, "parted() of like ones", of("", "ZZZZ").parted(), SUM + 160 * 12000);
        due(27, "part() of six like ones", of("", "ZZZZZZ").part(), 7);
        PotAndFine x = of("", "M0ZZP20");
        // 0 and 3 together: 10 and 20, then 20 and 20; 1 and 2: nothing.
        due(27, "part()", x.part(), 9);
        long together = 6000 + 28800 + 39L * 38400;
        due(28, "parted()", x.parted(), SUM + together + 40L * 24000);
        x.tell(0, 0, 0);
        x.send(3, 0);
        due(27, "part(), nothing told, none out", x.part(), 9);
        due(28, "parted(), nothing told, none out", x.parted(), SUM + together + 40L * 24000);
        due(27, "what is told stays", x.count(1), 1);
        due(27, "who is out stays", x.count(2), 1);
        due(27, "part() of six", of("", "M0ZP20ZP20Z").part(), 21);
        // One S beside two P20: it keeps 10 and pays 4 in ROUND 0, 9 lost by each; then all put 20 and get nothing.
        PotAndFine less = of("F9C9M00", "P20P20P20P20S09S09");
        due(27, "part() where all hold less than 0", less.part(), 19);
        due(28, "parted() where all hold less than 0", less.parted(), SUM + 2 * 600 * (10 - 36 - 36));
    }

    private static void replies() {
        PotAndFine x = of("M10", "P05P10");
        // A coin that is put gives half of it back.
        due(29, "reply(0, 0)", x.reply(0, 0), 0);
        due(30, "gain(0, 0, 0)", x.gain(0, 0, 0), SUM + 12000 + 3000);
        due(30, "gain(0, 0, 5)", x.gain(0, 0, 5), SUM + 9000 + 4500);
        due(30, "gain(0, 0, 20)", x.gain(0, 0, 20), SUM + 9000);
        due(31, "rest(0)", x.rest(0), 0);
        x.tell(0, 0, 0);
        due(31, "rest(0), 1 put", x.rest(0), 0);
        x.tell(1, 0, 0);
        due(31, "rest(0), none put", x.rest(0), 1);
        due(30, "gain(0, 0, 21)", x.gain(0, 0, 21), BAD);
        due(30, "gain(0, 0, -1)", x.gain(0, 0, -1), BAD);
        due(30, "gain(2, 0, 21)", x.gain(2, 0, 21), UNKNOWN);
        due(30, "gain(0, 40, 21)", x.gain(0, 40, 21), UNKNOWN);
        due(29, "reply(2, 0)", x.reply(2, 0), UNKNOWN);
        due(29, "reply(0, 40)", x.reply(0, 40), UNKNOWN);
        due(29, "reply(0, -1)", x.reply(0, -1), UNKNOWN);
        due(31, "rest(40)", x.rest(40), UNKNOWN);
        due(31, "rest(-1)", x.rest(-1), UNKNOWN);

        PotAndFine like = of("M20E07", "P03P04");
        due(29, "reply() of like ones", like.reply(0, 0), 0);
        due(31, "rest() of like ones", like.rest(0), 1);
        due(30, "gain() up to E", like.gain(0, 0, 7), SUM + 11 * 600);
        due(30, "gain() above E", like.gain(0, 0, 8), BAD);

        PotAndFine out = of("", "P05P10Z");
        out.send(0, 3);
        due(29, "reply(0, 3)", out.reply(0, 3), LATE);
        due(30, "gain(0, 3, 0)", out.gain(0, 3, 0), LATE);
        due(30, "gain(0, 3, 21), BAD is told first", out.gain(0, 3, 21), BAD);
        due(29, "reply(0, 2)", out.reply(0, 2), 0);

        // Z beside two that fine: with v put the mean is (20 + v) by three, and each pays what is short of it.
        PotAndFine fined = of("F9", "ZG09G09");
        due(30, "gain(0, 0, 0): the mean is 6", fined.gain(0, 0, 0), SUM + 12000 + 6400 - 12 * 9 * 600);
        due(30, "gain(0, 0, 8): the mean is 9", fined.gain(0, 0, 8), SUM + 7200 + 28 * 320 - 2 * 9 * 600);
        due(29, "reply(0, 0): none short", fined.reply(0, 0), 9);
        due(30, "gain(1, 0, 10), with what it pays itself", fined.gain(1, 0, 10), SUM + 6000 + 6400 - 6 * 600);
        due(31, "rest(0)", fined.rest(0), 0);
    }

    private static void bookPlaces() {
        PotAndFine x = new PotAndFine();
        due(32, "note(5, 7, 20)", x.note(5, 7, 20), NONE);
        due(32, "note(5, 7, 0)", x.note(5, 7, 0), 20);
        due(32, "note(5, 7, NONE)", x.note(5, 7, NONE), 0);
        due(32, "count(3)", x.count(3), 0);
        due(32, "note(6, 0, 21)", x.note(6, 0, 21), UNKNOWN);
        due(32, "note(-1, 0, 0)", x.note(-1, 0, 0), UNKNOWN);
        due(32, "note(0, 8, 21)", x.note(0, 8, 21), UNKNOWN);
        due(32, "note(0, -1, 0)", x.note(0, -1, 0), UNKNOWN);
        due(32, "note(0, 0, 21)", x.note(0, 0, 21), BAD);
        due(32, "note(0, 0, -1)", x.note(0, 0, -1), BAD);
        due(32, "count(3)", x.count(3), 0);
        x.note(0, 0, 9);
        x.note(1, 0, 8);
        x.note(2, 0, 2);
        due(33, "would(200, 0, 1): 10 by two", x.would(200, 0, 1), 5);
        due(33, "would(203, 1, 1): 11 by two, less 3", x.would(203, 1, 1), 2);
        due(33, "would(209, 1, 1), 0 at least", x.would(209, 1, 1), 0);
        due(33, "would(200, 5, 1): 19 by three", x.would(200, 5, 1), 6);
        due(33, "would(200, 0, 0)", x.would(200, 0, 0), NONE);
        due(33, "would(200, 0, 2), none told", x.would(200, 0, 2), NONE);
        due(33, "would(302, 0, 1)", x.would(302, 0, 1), 7);
        due(33, "would(309, 1, 1), 0 at least", x.would(309, 1, 1), 0);
        due(33, "would(300, 3, 1), not told", x.would(300, 3, 1), NONE);
        due(33, "would(300, 0, 0)", x.would(300, 0, 0), NONE);
        due(33, "would(113, 0, 0)", x.would(113, 0, 0), 13);
        due(33, "would(100, 4, 7)", x.would(100, 4, 7), 0);
        due(33, "would(0, 0, 0)", x.would(0, 0, 0), 0);
        int[] none = {-1, 1, 20, 99, 121, 199, 210, 299, 310, 400, -100, -200};
        for (int sort : none) {
            due(33, "would(" + sort + ", 0, 1)", x.would(sort, 0, 1), BAD);
            due(34, "slips(" + sort + ", 0)", x.slips(sort, 0), BAD);
        }
        due(33, "would(1, 6, 0), UNKNOWN is told first", x.would(1, 6, 0), UNKNOWN);
        due(33, "would(1, 0, 8)", x.would(1, 0, 8), UNKNOWN);
        due(33, "would(0, -1, 0)", x.would(0, -1, 0), UNKNOWN);
        due(33, "would(0, 0, -1)", x.would(0, 0, -1), UNKNOWN);
        due(34, "slips(1, 6)", x.slips(1, 6), UNKNOWN);
        due(34, "slips(0, -1)", x.slips(0, -1), UNKNOWN);
        PotAndFine alone = new PotAndFine();
        alone.note(0, 0, 9);
        due(33, "would(200, 0, 1), itself alone is told", alone.would(200, 0, 1), NONE);
    }

    private static void bookSorts() {
        PotAndFine x = new PotAndFine();
        due(35, "sort(0), nothing told", x.sort(0), 0);
        due(36, "sorts(0, 0), nothing told", x.sorts(0, 0), 42);
        int[] row = {12, 9, 6, 3, 0, 0, 5, 2};
        for (int r = 0; r < 8; r++) {
            x.note(3, r, row[r]);
        }
        due(34, "slips(0, 3)", x.slips(0, 3), 6);
        due(34, "slips(100, 3)", x.slips(100, 3), 6);
        due(34, "slips(112, 3), ROUND 0 too", x.slips(112, 3), 7);
        due(34, "slips(107, 3)", x.slips(107, 3), 8);
        due(34, "slips(303, 3): 5 behind 0", x.slips(303, 3), 1);
        due(34, "slips(300, 3)", x.slips(300, 3), 6);
        due(34, "slips(200, 3), nothing is told of others", x.slips(200, 3), 0);
        due(35, "sort(3)", x.sort(3), 200);
        due(36, "sorts(3, 0)", x.sorts(3, 0), 10);
        due(36, "sorts(3, 1)", x.sorts(3, 1), 11);
        due(36, "sorts(3, 8)", x.sorts(3, 8), 42);
        due(36, "sorts(3, 9)", x.sorts(3, 9), BAD);
        due(36, "sorts(3, -1)", x.sorts(3, -1), BAD);
        due(36, "sorts(6, 9)", x.sorts(6, 9), UNKNOWN);
        due(36, "sorts(-1, 0)", x.sorts(-1, 0), UNKNOWN);
        for (int r = 0; r < 8; r++) {
            x.note(4, r, 20);
        }
        due(34, "slips(200, 3)", x.slips(200, 3), 7);
        due(35, "sort(3) beside another one", x.sort(3), 303);
        due(35, "sort(4): PUTS is ahead of STAYS", x.sort(4), 120);
        due(36, "sorts(4, 0): PUTS 20, STAYS 0", x.sorts(4, 0), 2);
        due(35, "sort(6)", x.sort(6), UNKNOWN);
        due(35, "sort(-1)", x.sort(-1), UNKNOWN);
        PotAndFine never = new PotAndFine();
        never.note(0, 0, 0);
        due(35, "sort(0): never is ahead of PUTS 0", never.sort(0), 0);
        never.note(0, 0, 4);
        due(35, "sort(0)", never.sort(0), 104);
        due(36, "sorts(0, 0): PUTS 4, and who tells nothing", never.sorts(0, 0), 21);
    }

    private static void copies() {
        PotAndFine x = of("", "P03M1Z");
        x.note(5, 7, 1);
        x.send(2, 6);
        due(37, "copy()", x.copy(), 22);
        due(37, "count(3)", x.count(3), 22);
        due(37, "another one is not told", x.note(5, 7, NONE), NONE);
        due(37, "out", x.note(2, 6, NONE), NONE);
        due(37, "in", x.note(2, 5, 0), 0);
        due(37, "place 0, 7", x.note(0, 7, 3), 3);
        due(37, "place 1, 0", x.note(1, 0, 10), 10);
        due(37, "place 1, 1", x.note(1, 1, 0), 0);
        due(37, "sort(0)", x.sort(0), 103);
    }

    private static void slots() {
        PotAndFine x = of("F2", "P03M1Z");
        due(38, "keep(2)", x.keep(2), UNKNOWN);
        due(38, "keep(-1)", x.keep(-1), UNKNOWN);
        due(39, "again(2)", x.again(2), UNKNOWN);
        due(39, "again(-1)", x.again(-1), UNKNOWN);
        due(39, "again(0)", x.again(0), LATE);
        x.tell(0, 0, 20);
        x.tell(1, 39, 0);
        x.send(2, 7);
        x.note(4, 4, 4);
        due(38, "keep(0)", x.keep(0), 2);
        due(39, "again(1)", x.again(1), LATE);
        x.tell(0, 0, NONE);
        x.tell(0, 1, 8);
        x.tell(0, 2, 8);
        x.send(2, 40);
        x.send(1, 3);
        x.note(4, 4, NONE);
        x.note(1, 1, 1);
        x.note(1, 2, 1);
        x.fine(5);
        due(38, "keep(1)", x.keep(1), 3);
        due(39, "again(0)", x.again(0), 2);
        due(39, "put(0, 0)", x.put(0, 0), 20);
        due(39, "put(0, 1)", x.put(0, 1), 3);
        due(39, "here(7)", x.here(7), 2);
        due(39, "send(1, 40)", x.send(1, 40), 40);
        due(39, "count(3)", x.count(3), 1);
        due(39, "note(4, 4, 9)", x.note(4, 4, 9), 4);
        due(39, "the rule is not kept", x.ruled(2), 5);
        due(39, "again(0), what is kept is not touched", x.again(0), 2);
        due(39, "note(4, 4, 4)", x.note(4, 4, 4), 4);
        due(39, "again(1)", x.again(1), 3);
        due(39, "put(0, 1)", x.put(0, 1), 8);
        due(39, "put(1, 3)", x.put(1, 3), NONE);
        due(40, "count(0)", x.count(0), 3);
        due(40, "count(1)", x.count(1), 3);
        due(40, "count(2)", x.count(2), 1);
        due(40, "count(3)", x.count(3), 2);
        due(40, "count(4)", x.count(4), 6);
        due(40, "count(5)", x.count(5), BAD);
        due(40, "count(-1)", x.count(-1), BAD);
        text(x, "E05");
        x.rule();
        due(39, "again(0) behind another rule", x.again(0), 2);
        due(39, "put(0, 0), E at most", x.put(0, 0), 5);
        due(39, "again(1)", x.again(1), 3);
        due(39, "put(0, 0), not told there", x.put(0, 0), 3);
        text(x, "P19P18");
        x.group();
        due(6, "put(0, 0) of another group", x.put(0, 0), 5);
        text(x, "E18");
        x.rule();
        due(5, "put(0, 0) by another rule", x.put(0, 0), 18);
    }
}
