/** The edges that the document names of texts: part 1 of its terms, promises 1 to 8. */
public final class TextEdgesTest {
    private static final int UNKNOWN = Check.UNKNOWN, BAD = Check.BAD, LATE = Check.LATE, FULL = Check.FULL;
    private static final int NONE = Check.NONE;
    private static final String RULE_LETTERS = "EMFC", PEOPLE_LETTERS = "PZMGSVL";

    public static void main(String[] args) {
        aNewObject();
        newObjectsShareNothing();
        bytesOneToEight();
        theLowestBytesHighestFirst();
        bytesOfAnyValue();
        fortyAtMost();
        badAheadOfFull();
        wiping();
        firstByteOfARule();
        coinsOfARule();
        tenthsOfARule();
        fineAndCostOfARule();
        eachLetterOnce();
        allOrdersOfParts();
        firstByteOfAGroup();
        amountsOfPeople();
        digitsOfPeople();
        twoToSixPeople();
        theFirstOfSeveralFaults();
        anEndThatIsMissing();
        longTexts();
        ruleIsTaken();
        ruleIsRefused();
        ruleLeavesAllElse();
        groupIsTaken();
        groupIsRefused();
        groupForgets();
        ruledWhat();
        personWhat();
        Check.end();
    }

    private static void due(String call, long got, long want) {
        Check.due(call, got, want);
    }

    private static int faultOf(boolean group, String text) {
        PotAndFine x = new PotAndFine();
        Check.append(x, text);
        return x.fault(group);
    }

    private static void fault(boolean group, String text, int want) {
        PotAndFine x = new PotAndFine();
        Check.append(x, text);
        due("fault(" + group + ") of '" + text + "'", x.fault(group), want);
        int answer = group ? x.group() : x.rule();
        due((group ? "group()" : "rule()") + " of '" + text + "' is LATE", answer == LATE ? 1 : 0, want == NONE ? 0 : 1);
    }

    // -- promise 1

    private static void aNewObject() {
        Check.says(1, "Two who never put");
        PotAndFine x = new PotAndFine();
        due("count(0)", x.count(0), 2);
        due("person(0, 0)", x.person(0, 0), 1);
        due("person(1, 0)", x.person(1, 0), 1);
        due("person(2, 0)", x.person(2, 0), UNKNOWN);
        for (int round = 0; round < 40; round++) {
            due("holds(1, " + round + ")", x.holds(1, round), Check.SUM + 12000 * (round + 1));
            due("put(0, " + round + ")", x.put(0, round), 0);
            due("put(1, " + round + ")", x.put(1, round), 0);
        }
        Check.says(0, "At first the RULE has no PARTS, the GROUP is ZZ");
        due("ruled(0)", x.ruled(0), 20);
        due("ruled(1)", x.ruled(1), 16);
        due("ruled(2)", x.ruled(2), 0);
        due("ruled(3)", x.ruled(3), 1);
        Check.says(0, "none is at first (OUT)");
        due("count(2)", x.count(2), 0);
        due("here(39)", x.here(39), 2);
        due("send(0, 40)", x.send(0, 40), 40);
        due("send(1, 40)", x.send(1, 40), 40);
        Check.says(0, "NONE: not told, as at first");
        for (int person = 0; person < 6; person++) {
            for (int round = 0; round < 8; round++) {
                due("note(" + person + ", " + round + ", NONE)", x.note(person, round, NONE), NONE);
            }
        }
        Check.says(1, "nothing is told, kept or written");
        for (int round = 0; round < 40; round++) {
            due("tell(0, " + round + ", NONE)", x.tell(0, round, NONE), NONE);
            due("tell(1, " + round + ", NONE)", x.tell(1, round, NONE), NONE);
        }
        due("again(0)", x.again(0), LATE);
        due("again(1)", x.again(1), LATE);
        for (int what = 1; what <= 4; what++) {
            due("count(" + what + ")", x.count(what), 0);
        }
        due("wipe()", x.wipe(), 0);
    }

    private static void newObjectsShareNothing() {
        Check.says(1, "A new object");
        PotAndFine first = Check.of("E05M60F9C9", "P20P20P20");
        first.tell(0, 0, 3);
        first.send(0, 1);
        first.note(0, 0, 3);
        first.keep(0);
        first.pot(0);
        PotAndFine second = new PotAndFine();
        due("count(0) beside another object", second.count(0), 2);
        due("ruled(0) beside another object", second.ruled(0), 20);
        due("pot(0) beside another object", second.pot(0), 0);
        due("count(1) beside another object", second.count(1), 0);
        due("count(2) beside another object", second.count(2), 0);
        due("count(3) beside another object", second.count(3), 0);
        due("count(4) beside another object", second.count(4), 0);
        due("again(0) beside another object", second.again(0), LATE);
        due("pot(0) of the first one", first.pot(0), 13);
    }

    // -- promises 2 and 3

    private static void bytesOneToEight() {
        Check.says(2, "n bytes (1 .. 8); BAD");
        int[] refused = {0, 9, -1, -8, 10, 256, Check.LOWEST, Check.HIGHEST, -Check.HIGHEST, 257};
        for (int n : refused) {
            PotAndFine x = new PotAndFine();
            Check.append(x, "Z");
            due("write(" + n + ", ..)", x.write(n, 0x5A5A5A5A5A5A5A5AL), BAD);
            due("count(4) behind it", x.count(4), 1);
            due("fault(true) behind it", x.fault(true), 1);
        }
        for (int n = 1; n <= 8; n++) {
            PotAndFine x = new PotAndFine();
            due("write(" + n + ", ..)", x.write(n, 0x5A5A5A5A5A5A5A5AL), n);
            due("write(" + n + ", ..) again", x.write(n, 0x5A5A5A5A5A5A5A5AL), 2 * n);
            due("count(4)", x.count(4), 2 * n);
        }
    }

    private static void theLowestBytesHighestFirst() {
        Check.says(2, "the lowest n, the highest of these first, come behind THE TEXT");
        String text = "P07M1L2Z";
        for (int n = 1; n <= 7; n++) {
            PotAndFine x = new PotAndFine();
            write(x, text.substring(0, n), 0xFFFFFFFFFFFFFFFFL);
            write(x, text.substring(n), 0x4545454545454545L);
            due("group() of two pieces, " + n + " first", x.group(), 4);
            due("person(0, 1)", x.person(0, 1), 7);
            due("person(1, 0)", x.person(1, 0), 2);
            due("person(1, 1)", x.person(1, 1), 1);
            due("person(2, 0)", x.person(2, 0), 6);
            due("person(2, 1)", x.person(2, 1), 2);
            due("person(3, 0)", x.person(3, 0), 1);
        }
        PotAndFine whole = new PotAndFine();
        write(whole, text, 0);
        due("group() of eight at once", whole.group(), 4);
        due("person(0, 1)", whole.person(0, 1), 7);
        due("person(2, 1)", whole.person(2, 1), 2);
    }

    private static void write(PotAndFine x, String some, long above) {
        long v = above;
        for (int i = 0; i < some.length(); i++) {
            v = v << 8 | some.charAt(i);
        }
        x.write(some.length(), v);
    }

    private static void bytesOfAnyValue() {
        Check.says(2, "bytes of v: a byte's sign is no sign");
        long[] numbers = {-1L, Long.MIN_VALUE, Long.MAX_VALUE, 0L, 0x80L, 0x8080808080808080L};
        for (long v : numbers) {
            PotAndFine x = new PotAndFine();
            due("write(8, " + v + ")", x.write(8, v), 8);
            due("fault(true)", x.fault(true), 0);
            due("write(1, " + v + ")", x.write(1, v), 9);
        }
        PotAndFine x = new PotAndFine();
        x.write(2, 0xFFFFFFFFFFFF5A5AL);
        due("group() of the lowest two of a number below 0", x.group(), 2);
        PotAndFine high = new PotAndFine();
        // 'Z' and 'P' with their highest bit are other bytes.
        high.write(2, 0xDAD0L);
        due("fault(true) of bytes above 127", high.fault(true), 0);
    }

    private static void fortyAtMost() {
        Check.says(2, "FULL: it would be longer than 40 (nothing comes)");
        for (int n = 1; n <= 8; n++) {
            PotAndFine fits = filled(40 - n);
            due("write(" + n + ", ..) behind " + (40 - n), fits.write(n, 0x5A), 40);
            PotAndFine full = filled(41 - n);
            due("write(" + n + ", ..) behind " + (41 - n), full.write(n, 0x5A), FULL);
            due("count(4)", full.count(4), 41 - n);
            PotAndFine over = filled(40);
            due("write(" + n + ", ..) behind 40", over.write(n, 0x5A), FULL);
            due("count(4)", over.count(4), 40);
            due("wipe()", over.wipe(), 40);
            due("write(" + n + ", ..) behind nothing", over.write(n, 0x5A), n);
        }
    }

    private static PotAndFine filled(int length) {
        PotAndFine x = new PotAndFine();
        for (int i = 0; i < length; i++) {
            x.write(1, 'Z');
        }
        due("count(4) of " + length, x.count(4), length);
        return x;
    }

    private static void badAheadOfFull() {
        Check.says(2, "BAD; FULL: of several what is told first");
        PotAndFine x = filled(40);
        due("write(0, 0)", x.write(0, 0), BAD);
        due("write(9, 0)", x.write(9, 0), BAD);
        due("write(highest, 0)", x.write(Check.HIGHEST, 0), BAD);
        due("write(lowest, 0)", x.write(Check.LOWEST, 0), BAD);
        due("write(1, 0)", x.write(1, 0), FULL);
    }

    private static void wiping() {
        Check.says(3, "THE TEXT is empty: how long it was");
        PotAndFine x = new PotAndFine();
        due("wipe() of nothing", x.wipe(), 0);
        for (int length = 1; length <= 40; length++) {
            PotAndFine y = filled(length);
            due("wipe() of " + length, y.wipe(), length);
            due("count(4)", y.count(4), 0);
            due("wipe() again", y.wipe(), 0);
            due("fault(true) of nothing", y.fault(true), 0);
            due("fault(false) of nothing", y.fault(false), NONE);
        }
        Check.says(3, "the RULE and the GROUP are not THE TEXT");
        PotAndFine z = Check.of("E07", "P05P06P04");
        z.wipe();
        due("ruled(0)", z.ruled(0), 7);
        due("count(0)", z.count(0), 3);
        due("pot(0)", z.pot(0), 15);
        z.write(1, 'E');
        due("fault(false): nothing of the old text is there", z.fault(false), 1);
        // What was wiped would make the end that is missing.
        endIsGone(false, "F3", "F");
        endIsGone(false, "E05", "E0");
        endIsGone(false, "E05", "E");
        endIsGone(false, "E05M16", "C1M1");
        endIsGone(true, "ZZ", "Z");
        endIsGone(true, "ZM3", "ZM");
        endIsGone(true, "ZG37", "ZG3");
        endIsGone(true, "P20P20P20P20P20P20", "P20P20P20P20P20P2");
    }

    private static void endIsGone(boolean group, String old, String text) {
        PotAndFine x = new PotAndFine();
        Check.append(x, old);
        due("fault of " + old, x.fault(group), NONE);
        Check.text(x, text);
        due("fault of " + text + " behind " + old, x.fault(group), text.length());
    }

    // -- promise 4: a rule

    private static void firstByteOfARule() {
        Check.says(4, "FAULT of a RULE: the place of the first byte by which THE TEXT can be none");
        for (int b = 0; b < 256; b++) {
            fault(false, "" + (char) b, RULE_LETTERS.indexOf(b) >= 0 ? 1 : 0);
        }
    }

    private static void numberOfTwo(boolean group, String letter, int least, int most) {
        String ahead = group ? "Z" : "";
        int at = ahead.length();
        for (int b = 0; b < 256; b++) {
            boolean can = b >= '0' && b <= '0' + most / 10;
            fault(group, ahead + letter + (char) b, can ? at + 2 : at + 1);
        }
        for (int first = 0; first <= most / 10; first++) {
            for (int b = 0; b < 256; b++) {
                int number = 10 * first + b - '0';
                boolean is = b >= '0' && b <= '9' && number >= least && number <= most;
                fault(group, ahead + letter + first + (char) b, is ? NONE : at + 2);
            }
        }
    }

    private static void coinsOfARule() {
        Check.says(4, "Exx each has xx COINS (01 .. 20)");
        numberOfTwo(false, "E", 1, 20);
        for (int coins = 1; coins <= 20; coins++) {
            PotAndFine x = Check.of("E" + Check.two(coins), "P20Z");
            due("ruled(0)", x.ruled(0), coins);
            due("put(0, 0)", x.put(0, 0), coins);
            due("holds(1, 0)", x.holds(1, 0), Check.SUM + 600 * coins + 480 * coins);
        }
    }

    private static void tenthsOfARule() {
        Check.says(4, "Mxx the pot is made xx tenths of it (00 .. 60)");
        numberOfTwo(false, "M", 0, 60);
        for (int tenths = 0; tenths <= 60; tenths++) {
            PotAndFine x = Check.of("M" + Check.two(tenths), "P20Z");
            due("ruled(1)", x.ruled(1), tenths);
            due("holds(0, 0)", x.holds(0, 0), Check.SUM + 600 * tenths);
        }
    }

    private static void digit(boolean group, String text, int least) {
        int at = text.length();
        for (int b = 0; b < 256; b++) {
            fault(group, text + (char) b, b >= '0' + least && b <= '9' ? NONE : at);
        }
    }

    private static void fineAndCostOfARule() {
        Check.says(4, "Fx (0 .. 9)");
        digit(false, "F", 0);
        Check.says(4, "Cx (1 .. 9)");
        digit(false, "C", 1);
        Check.says(5, "Fx (0 .. 9), Cx (1 .. 9)");
        for (int x = 0; x <= 9; x++) {
            PotAndFine fine = Check.of("F" + x, "ZZ");
            due("ruled(2)", fine.ruled(2), x);
            if (x > 0) {
                PotAndFine cost = Check.of("C" + x, "ZZ");
                due("ruled(3)", cost.ruled(3), x);
            }
        }
    }

    private static void eachLetterOnce() {
        Check.says(4, "each letter at most once");
        String[] parts = {"E05", "M16", "F3", "C2"};
        for (int i = 0; i < 4; i++) {
            for (int j = 0; j < 4; j++) {
                int at = parts[i].length();
                fault(false, parts[i] + parts[j], i == j ? at : NONE);
                fault(false, parts[i] + parts[j].charAt(0), i == j ? at : at + 1);
                if (i != j) {
                    int behind = at + parts[j].length();
                    fault(false, parts[i] + parts[j] + parts[i], behind);
                    fault(false, parts[i] + parts[j] + parts[j], behind);
                }
            }
        }
    }

    private static void allOrdersOfParts() {
        Check.says(5, "a TEXT of PARTS, none or more; else 20, 16, 0, 1: how many PARTS");
        orders("", 0, 0);
    }

    private static void orders(String text, int used, int count) {
        PotAndFine x = Check.of("E09M33F9C9", "ZZ");
        Check.text(x, text);
        due("fault(false) of " + text, x.fault(false), NONE);
        due("rule() of " + text, x.rule(), count);
        due("ruled(0)", x.ruled(0), (used & 1) != 0 ? 5 : 20);
        due("ruled(1)", x.ruled(1), (used & 2) != 0 ? 7 : 16);
        due("ruled(2)", x.ruled(2), (used & 4) != 0 ? 3 : 0);
        due("ruled(3)", x.ruled(3), (used & 8) != 0 ? 2 : 1);
        for (int b = 0; b < 256; b++) {
            int letter = RULE_LETTERS.indexOf(b);
            boolean can = letter >= 0 && (used >> letter & 1) == 0;
            due("fault(false) of " + text + " and byte " + b, faultOf(false, text + (char) b),
                can ? text.length() + 1 : text.length());
        }
        String[] parts = {"E05", "M07", "F3", "C2"};
        for (int i = 0; i < 4; i++) {
            if ((used >> i & 1) == 0) {
                orders(text + parts[i], used | 1 << i, count + 1);
            }
        }
    }

    // -- promise 4: a group

    private static void firstByteOfAGroup() {
        Check.says(4, "FAULT of a GROUP: the place of the first byte by which THE TEXT can be none");
        for (int b = 0; b < 256; b++) {
            boolean letter = PEOPLE_LETTERS.indexOf(b) >= 0;
            fault(true, "" + (char) b, letter ? 1 : 0);
            fault(true, "Z" + (char) b, b == 'Z' ? NONE : letter ? 2 : 1);
            fault(true, "ZZ" + (char) b, b == 'Z' ? NONE : letter ? 3 : 2);
        }
    }

    private static void amountsOfPeople() {
        Check.says(4, "Pxx PUTS xx (00 .. 20)");
        numberOfTwo(true, "P", 0, 20);
        for (int coins = 0; coins <= 20; coins++) {
            PotAndFine x = Check.of("", "P" + Check.two(coins) + "Z");
            due("person(0, 1)", x.person(0, 1), coins);
            due("put(0, 39)", x.put(0, 39), coins);
        }
    }

    private static void digitsOfPeople() {
        Check.says(4, "Md, Ld: d less (0 .. 9)");
        digit(true, "ZM", 0);
        digit(true, "ZL", 0);
        Check.says(4, "Gda, Sda, Vda: d and a 0 .. 9");
        for (String letter : new String[] {"G", "S", "V"}) {
            for (int b = 0; b < 256; b++) {
                fault(true, "Z" + letter + (char) b, b >= '0' && b <= '9' ? 3 : 2);
            }
            for (int d = 0; d <= 9; d++) {
                digit(true, "Z" + letter + d, 0);
            }
        }
        Check.says(8, "xx or d, a");
        for (int d = 0; d <= 9; d++) {
            for (int a = 0; a <= 9; a++) {
                PotAndFine x = Check.of("", "G" + d + a + "S" + d + a + "V" + d + a + "M" + d + "L" + d);
                for (int person = 0; person < 5; person++) {
                    due("person(" + person + ", 1)", x.person(person, 1), d);
                    due("person(" + person + ", 2)", x.person(person, 2), person < 3 ? a : 0);
                }
            }
        }
    }

    private static void twoToSixPeople() {
        Check.says(4, "PEOPLE, one behind the other, 2 .. 6");
        fault(true, "", 0);
        fault(true, "Z", 1);
        fault(true, "G99", 3);
        for (int size = 2; size <= 6; size++) {
            String people = "ZZZZZZ".substring(0, size);
            fault(true, people, NONE);
            PotAndFine x = new PotAndFine();
            Check.append(x, people);
            due("group() of " + size, x.group(), size);
            due("count(0)", x.count(0), size);
            due("person(size - 1, 0)", x.person(size - 1, 0), 1);
            due("person(size, 0)", x.person(size, 0), UNKNOWN);
        }
        for (int b = 0; b < 256; b++) {
            fault(true, "ZZZZZZ" + (char) b, 6);
            fault(true, "G11S22V33P20M0L9" + (char) b, 16);
        }
        fault(true, "P20G99S99V99P00P19", NONE);
        fault(true, "P20G99S99V99P00P19Z", 18);
        fault(true, "ZZZZZZZZ", 6);
    }

    private static void theFirstOfSeveralFaults() {
        Check.says(4, "the place of the first byte by which THE TEXT can be none, whatever came behind it");
        fault(false, "E99Q", 1);
        fault(false, "F3F3F3", 2);
        fault(false, "QE05", 0);
        fault(false, "E05 M16", 3);
        fault(false, "M60E20C0F", 7);
        fault(true, "ZP99", 2);
        fault(true, "ZZQZZ", 2);
        fault(true, "G9GG9G", 2);
        fault(true, "zZ", 0);
        fault(true, "ZZZZZZP99", 6);
        Check.says(4, "a RULE is none of a GROUP, a GROUP none of a RULE");
        fault(true, "E05", 0);
        fault(false, "ZZ", 0);
        fault(true, "M16", 2);
        fault(false, "M1L1", 2);
        fault(false, "", NONE);
        fault(true, "", 0);
    }

    private static void anEndThatIsMissing() {
        Check.says(4, "its length, if it is only not at its end");
        fault(false, "E", 1);
        fault(false, "E0", 2);
        fault(false, "E2", 2);
        fault(false, "M6", 2);
        fault(false, "F", 1);
        fault(false, "C", 1);
        fault(false, "F3C1E20M", 8);
        fault(false, "F3C1E20M6", 9);
        fault(true, "P", 1);
        fault(true, "P2", 2);
        fault(true, "P20", 3);
        fault(true, "ZG", 2);
        fault(true, "ZG0", 3);
        fault(true, "ZZM", 3);
        fault(true, "ZZZZZP2", 7);
        fault(true, "ZZZZZS", 6);
        fault(true, "P20P20P20P20P20P2", 17);
    }

    private static void longTexts() {
        Check.says(4, "its length set aside: a TEXT of 40");
        PotAndFine x = new PotAndFine();
        Check.append(x, "P20P20P20P20P20P20P20P20P20P20P20P20P20P");
        due("count(4)", x.count(4), 40);
        due("fault(true)", x.fault(true), 18);
        due("fault(false)", x.fault(false), 0);
        due("group()", x.group(), LATE);
        Check.text(x, "E20M60F9C9E20M60F9C9E20M60F9C9E20M60F9C9");
        due("count(4)", x.count(4), 40);
        due("fault(false)", x.fault(false), 10);
        due("rule()", x.rule(), LATE);
    }

    // -- promises 5 to 8

    private static void ruleIsTaken() {
        Check.says(5, "THE TEXT is the RULE; else 20, 16, 0, 1");
        PotAndFine x = Check.of("E01M00F9C9", "P20P20");
        due("ruled(0)", x.ruled(0), 1);
        due("ruled(1)", x.ruled(1), 0);
        due("ruled(2)", x.ruled(2), 9);
        due("ruled(3)", x.ruled(3), 9);
        due("pot(0)", x.pot(0), 2);
        Check.text(x, "");
        due("rule() of nothing", x.rule(), 0);
        due("ruled(0)", x.ruled(0), 20);
        due("ruled(1)", x.ruled(1), 16);
        due("ruled(2)", x.ruled(2), 0);
        due("ruled(3)", x.ruled(3), 1);
        due("pot(0)", x.pot(0), 40);
        Check.text(x, "E20M60");
        due("rule()", x.rule(), 2);
        due("rule(): THE TEXT is there still", x.rule(), 2);
        due("count(4)", x.count(4), 6);
        x.fine(4);
        due("ruled(2)", x.ruled(2), 4);
        due("rule()", x.rule(), 2);
        due("ruled(2): F is 0 again", x.ruled(2), 0);
    }

    private static void ruleIsRefused() {
        Check.says(5, "LATE: a FAULT; what is refused changes nothing");
        for (String text : new String[] {"E", "E00", "E21", "M61", "C0", "F3F3", "E05Z", "ZZ", "F3C1E20M6"}) {
            PotAndFine x = Check.of("E07M09F5C4", "P20P20");
            due("pot(0)", x.pot(0), 14);
            Check.text(x, text);
            due("rule() of " + text, x.rule(), LATE);
            due("ruled(0)", x.ruled(0), 7);
            due("ruled(1)", x.ruled(1), 9);
            due("ruled(2)", x.ruled(2), 5);
            due("ruled(3)", x.ruled(3), 4);
            due("pot(0)", x.pot(0), 14);
            due("count(4)", x.count(4), text.length());
        }
    }

    private static void ruleLeavesAllElse() {
        Check.says(5, "THE TEXT is the RULE, nothing else");
        PotAndFine x = Check.of("", "P10P10P10");
        x.tell(0, 0, 17);
        x.send(2, 5);
        x.note(3, 3, 3);
        x.keep(1);
        Check.rule(x, "E12");
        due("count(0)", x.count(0), 3);
        due("count(1)", x.count(1), 1);
        due("count(2)", x.count(2), 1);
        due("count(3)", x.count(3), 1);
        due("put(0, 0)", x.put(0, 0), 12);
        due("again(1)", x.again(1), 1);
        due("again(0)", x.again(0), LATE);
    }

    private static void groupIsTaken() {
        Check.says(6, "THE TEXT is the GROUP: how many PEOPLE; PEOPLE are numbered as they are told");
        PotAndFine x = Check.of("", "V98L7G65S43M2P10");
        int[][] told = {{5, 9, 8}, {6, 7, 0}, {3, 6, 5}, {4, 4, 3}, {2, 2, 0}, {0, 10, 0}};
        for (int person = 0; person < 6; person++) {
            for (int what = 0; what < 3; what++) {
                due("person(" + person + ", " + what + ")", x.person(person, what), told[person][what]);
            }
        }
        due("group() again", x.group(), 6);
        due("put(5, 39)", x.put(5, 39), 10);
        due("holds(0, 0) of one of six that put 10", x.holds(0, 0), Check.SUM + 6000 + 9600);
        Check.text(x, "ZP01");
        due("group() of fewer", x.group(), 2);
        due("person(0, 0)", x.person(0, 0), 1);
        due("person(0, 1)", x.person(0, 1), 0);
        due("person(0, 2)", x.person(0, 2), 0);
        due("person(1, 1)", x.person(1, 1), 1);
        due("person(2, 0)", x.person(2, 0), UNKNOWN);
        due("pot(39)", x.pot(39), 1);
        due("here(39)", x.here(39), 2);
        due("holds(0, 39)", x.holds(0, 39), Check.SUM + 40 * (12000 + 480));
        due("all(39, false)", x.all(39, false), Check.SUM + 40 * (24000 + 360));
    }

    private static void groupIsRefused() {
        Check.says(6, "LATE; what is refused changes nothing");
        for (String text : new String[] {"", "Z", "P20", "ZP21", "ZG9", "ZZZZZZZ", "ZZ!", "E20", "M16"}) {
            PotAndFine x = Check.of("F2", "P03M4G56");
            x.tell(0, 0, 17);
            x.send(2, 5);
            x.note(3, 3, 3);
            x.keep(0);
            Check.text(x, text);
            due("group() of '" + text + "'", x.group(), LATE);
            due("count(0)", x.count(0), 3);
            due("count(1)", x.count(1), 1);
            due("count(2)", x.count(2), 1);
            due("count(3)", x.count(3), 1);
            due("count(4)", x.count(4), text.length());
            due("person(0, 1)", x.person(0, 1), 3);
            due("person(1, 1)", x.person(1, 1), 4);
            due("person(2, 2)", x.person(2, 2), 6);
            due("put(0, 0)", x.put(0, 0), 17);
            due("again(0)", x.again(0), 1);
        }
    }

    private static void groupForgets() {
        Check.says(6, "nothing is TOLD, none is OUT; what was kept is gone, THE BOOK stays");
        PotAndFine x = Check.of("F2", "P03P04P05P06P07P08");
        for (int person = 0; person < 6; person++) {
            x.tell(person, 0, 20);
            x.tell(person, 39, 20);
            x.note(person, person, person);
        }
        for (int person = 0; person < 4; person++) {
            x.send(person, person);
        }
        x.keep(0);
        x.keep(1);
        due("count(1)", x.count(1), 12);
        due("count(2)", x.count(2), 4);
        due("put(4, 0)", x.put(4, 0), 20);
        due("put(0, 0)", x.put(0, 0), NONE);
        due("group() of the same", groupAgain(x), 6);
        due("count(1)", x.count(1), 0);
        due("count(2)", x.count(2), 0);
        due("again(0)", x.again(0), LATE);
        due("again(1)", x.again(1), LATE);
        due("count(3)", x.count(3), 6);
        due("ruled(2): the RULE stays", x.ruled(2), 2);
        for (int person = 0; person < 6; person++) {
            due("put(" + person + ", 0)", x.put(person, 0), 3 + person);
            due("put(" + person + ", 39)", x.put(person, 39), 3 + person);
            due("tell(" + person + ", 0, NONE)", x.tell(person, 0, NONE), NONE);
            due("send(" + person + ", 40)", x.send(person, 40), 40);
            due("note", x.note(person, person, NONE), person);
        }
    }

    private static int groupAgain(PotAndFine x) {
        Check.text(x, "P03P04P05P06P07P08");
        return x.group();
    }

    private static void ruledWhat() {
        Check.says(7, "E (what = 0), M (1), F (2), C (3). BAD");
        PotAndFine x = Check.of("E11M22F3C4", "ZZ");
        int[] told = {11, 22, 3, 4};
        for (int what = 0; what < 4; what++) {
            due("ruled(" + what + ")", x.ruled(what), told[what]);
        }
        for (int what : new int[] {-1, 4, 5, -9, Check.LOWEST, Check.HIGHEST}) {
            due("ruled(" + what + ")", x.ruled(what), BAD);
        }
    }

    private static void personWhat() {
        Check.says(8, "UNKNOWN; BAD");
        for (String people : new String[] {"ZZ", "P20P20P20P20P20P20"}) {
            PotAndFine x = Check.of("", people);
            int size = x.count(0);
            for (int person : new int[] {-1, size, 6, Check.LOWEST, Check.HIGHEST}) {
                for (int what : new int[] {-1, 0, 1, 2, 3}) {
                    due("person(" + person + ", " + what + ")", x.person(person, what), UNKNOWN);
                }
            }
            for (int what : new int[] {-1, 3, -9, Check.LOWEST, Check.HIGHEST}) {
                due("person(0, " + what + ")", x.person(0, what), BAD);
                due("person(size - 1, " + what + ")", x.person(size - 1, what), BAD);
            }
        }
        Check.says(8, "xx or d (1; 0 of Z), a (2; 0 without)");
        PotAndFine x = Check.of("", "ZP20M9L9");
        due("person(0, 1)", x.person(0, 1), 0);
        for (int person = 0; person < 4; person++) {
            due("person(" + person + ", 2)", x.person(person, 2), 0);
        }
    }
}
