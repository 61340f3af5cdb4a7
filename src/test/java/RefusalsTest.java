import java.util.ArrayList;
import java.util.List;

/**
 * Part 5 of the document's terms: what is refused changes nothing, and of several refusals the one that is told first
 * is answered. Each refused call is made on an object that is then held against its twin, on which it was not made;
 * so is each call that only asks.
 */
public final class RefusalsTest {
    private static final int UNKNOWN = Check.UNKNOWN, BAD = Check.BAD, LATE = Check.LATE, FULL = Check.FULL;
    private static final int NONE = Check.NONE;
    private static final long ANY = Long.MIN_VALUE;
    private static final int[] WRONG = {-1, -9, Check.LOWEST, Check.HIGHEST};

    private interface State {
        PotAndFine make();
    }

    private interface Call {
        long on(PotAndFine x);
    }

    private interface Probe {
        void look(PotAndFine x, List<Long> seen);
    }

    private static final class Named {
        final String name;
        final Call call;
        final long want;

        Named(String name, Call call, long want) {
            this.name = name;
            this.call = call;
            this.want = want;
        }
    }

    private static final List<Probe> PROBES = List.of(RefusalsTest::lookAtTexts, RefusalsTest::lookAtRule,
        RefusalsTest::lookAtPuts, RefusalsTest::lookAtPayments, RefusalsTest::lookAtHoldings,
        RefusalsTest::lookAtOutcomes, RefusalsTest::lookAtWhatIsTold, (x, seen) -> lookAtSlot(x, 0, seen),
        (x, seen) -> lookAtSlot(x, 1, seen));

    public static void main(String[] args) {
        changeNothing("six", RefusalsTest::six, refusedBySix());
        changeNothing("two", RefusalsTest::two, refusedByTwo());
        changeNothing("a full text", RefusalsTest::full, refusedByFullText());
        changeNothing("a new object", PotAndFine::new, refusedByNew());
        changeNothing("six, asked", RefusalsTest::six, asking());
        changeNothing("two, asked", RefusalsTest::two, asking());
        askedInAnyOrder("six", RefusalsTest::six);
        askedInAnyOrder("two", RefusalsTest::two);
        askedInAnyOrder("a new object", PotAndFine::new);
        Check.end();
    }

    // -- states that have something everywhere, made by few calls, as an object has 512

    private static PotAndFine six() {
        PotAndFine x = Check.of("E15M30F2C3", "L1G09S39V18P20M2");
        x.tell(0, 0, 20);
        x.tell(5, 39, 0);
        x.tell(2, 4, 3);
        x.send(4, 20);
        x.note(0, 0, 4);
        x.note(5, 7, 20);
        x.keep(0);
        x.tell(1, 1, 15);
        x.tell(0, 0, NONE);
        x.send(3, 0);
        x.note(2, 2, 0);
        x.keep(1);
        x.tell(3, 7, 9);
        x.send(4, 30);
        x.send(3, 12);
        x.send(0, 39);
        x.send(5, 38);
        x.note(0, 0, NONE);
        x.note(1, 1, 1);
        x.note(1, 0, 3);
        Check.text(x, "M3E");
        return x;
    }

    private static PotAndFine two() {
        PotAndFine x = Check.of("F4C2", "L2G19");
        x.tell(1, 0, 20);
        x.keep(0);
        x.note(3, 3, 3);
        x.tell(0, 38, 20);
        Check.text(x, "Z");
        return x;
    }

    private static PotAndFine full() {
        PotAndFine x = two();
        Check.text(x, "P20P20P20P20P20P20P20P20P20P20P20P20P");
        return x;
    }

    // -- what can be seen of an object; a probe may change it, as it is thrown away then

    private static void lookAtTexts(PotAndFine x, List<Long> seen) {
        seen.add((long) x.count(4));
        seen.add((long) x.fault(true));
        seen.add((long) x.fault(false));
        seen.add((long) x.rule());
        seen.add((long) x.group());
        for (char more : "0EZ".toCharArray()) {
            seen.add((long) x.write(1, more));
            seen.add((long) x.fault(true));
            seen.add((long) x.fault(false));
            seen.add((long) x.group());
        }
        lookAtRule(x, seen);
        for (int left = 0; left < 41; left++) {
            seen.add((long) x.write(1, 'Z'));
        }
        seen.add((long) x.wipe());
    }

    private static void lookAtRule(PotAndFine x, List<Long> seen) {
        for (int what = 0; what < 5; what++) {
            seen.add((long) x.count(what));
            seen.add((long) x.ruled(what));
        }
        for (int person = 0; person < x.count(0); person++) {
            for (int what = 0; what < 3; what++) {
                seen.add((long) x.person(person, what));
            }
        }
        for (int round = 0; round < 40; round++) {
            seen.add((long) x.here(round));
            seen.add((long) x.pot(round));
        }
    }

    private static void lookAtPuts(PotAndFine x, List<Long> seen) {
        for (int person = 0; person < x.count(0); person++) {
            for (int round = 0; round < 40; round++) {
                seen.add((long) x.put(person, round));
            }
        }
    }

    private static void lookAtPayments(PotAndFine x, List<Long> seen) {
        int size = x.count(0);
        for (int round = 0; round < 40; round += 4) {
            for (int person = 0; person < size; person++) {
                for (int other = 0; other < size; other++) {
                    seen.add((long) x.paid(person, other, round));
                }
            }
        }
    }

    private static void lookAtHoldings(PotAndFine x, List<Long> seen) {
        int size = x.count(0);
        for (int person = 0; person < size; person++) {
            for (int round = 1; round < 40; round += 2) {
                seen.add(x.holds(person, round));
                seen.add((long) x.lost(person, round));
            }
        }
        for (int round = 0; round < 40; round++) {
            seen.add(x.all(round, false));
            seen.add(x.all(round, true));
        }
    }

    private static void lookAtOutcomes(PotAndFine x, List<Long> seen) {
        seen.add((long) x.fall());
        seen.add((long) x.pays());
        seen.add((long) x.leader());
        seen.add(x.led());
        seen.add((long) x.whom());
        seen.add((long) x.part());
        seen.add(x.parted());
        int size = x.count(0);
        for (int round = 0; round < 40; round += 5) {
            seen.add((long) x.vote(round));
            seen.add((long) x.least(round, 9));
            seen.add((long) x.rest(round));
            for (int person = 0; person < size; person++) {
                seen.add((long) x.reply(person, round));
                seen.add(x.gain(person, round, 4));
            }
        }
        for (int person = 0; person < 6; person++) {
            seen.add(x.without(person));
            seen.add((long) x.sort(person));
            for (int n = 0; n < 9; n++) {
                seen.add((long) x.sorts(person, n));
            }
        }
    }

    private static void lookAtWhatIsTold(PotAndFine x, List<Long> seen) {
        int size = x.count(0);
        for (int person = 0; person < size; person++) {
            for (int round = 0; round < 40; round++) {
                seen.add((long) x.tell(person, round, NONE));
            }
            seen.add((long) x.send(person, 40));
        }
        for (int person = 0; person < 6; person++) {
            for (int round = 0; round < 8; round++) {
                seen.add((long) x.note(person, round, NONE));
            }
        }
    }

    private static void lookAtSlot(PotAndFine x, int slot, List<Long> seen) {
        seen.add((long) x.again(slot));
        seen.add((long) x.pot(39));
        lookAtWhatIsTold(x, seen);
    }

    // -- calls

    private static void changeNothing(String name, State state, List<Named> calls) {
        List<List<Long>> before = new ArrayList<>();
        for (Probe probe : PROBES) {
            before.add(looked(probe, state.make()));
        }
        for (Named named : calls) {
            for (int probe = 0; probe < PROBES.size(); probe++) {
                PotAndFine x = state.make();
                // One that has run its rounds already, as a call may only seem to change nothing while they are not run.
                x.pot(0);
                long answer = named.call.on(x);
                Check.says(0, "of several what is told first");
                if (named.want != ANY) {
                    Check.due(name + ": " + named.name, answer, named.want);
                }
                List<Long> seen = looked(PROBES.get(probe), x);
                Check.says(0, "What is refused changes nothing");
                Check.due(name + ": " + named.name + " changed what probe " + probe + " saw",
                    seen.equals(before.get(probe)) ? 0 : 1, 0);
            }
        }
    }

    /** Each question answers behind each other one as it does when it is the first. */
    private static void askedInAnyOrder(String name, State state) {
        Check.says(0, "the same calls give the same answers");
        for (Named first : asking()) {
            for (Named second : asking()) {
                long alone = second.call.on(state.make());
                PotAndFine x = state.make();
                first.call.on(x);
                Check.due(name + ": " + second.name + " behind " + first.name, second.call.on(x), alone);
            }
        }
    }

    private static List<Long> looked(Probe probe, PotAndFine x) {
        List<Long> seen = new ArrayList<>();
        probe.look(x, seen);
        return seen;
    }

    private static void add(List<Named> calls, String name, long want, Call call) {
        calls.add(new Named(name, call, want));
    }

    /** What is refused of every object, its size given; wrong arguments stand alone and beside others. */
    private static List<Named> refused(int size) {
        List<Named> calls = new ArrayList<>();
        for (int n : new int[] {0, 9, -1, Check.LOWEST, Check.HIGHEST}) {
            add(calls, "write(" + n + ", ..)", BAD, x -> x.write(n, 0x5A5A5A5A5A5A5A5AL));
        }
        for (int w : WRONG) {
            refusedOf(calls, w);
            refusedPerson(calls, w);
            refusedRound(calls, w);
        }
        refusedPerson(calls, size);
        refusedRound(calls, 40);
        add(calls, "ruled(4)", BAD, x -> x.ruled(4));
        add(calls, "person(0, 3)", BAD, x -> x.person(0, 3));
        add(calls, "count(5)", BAD, x -> x.count(5));
        add(calls, "fine(10)", BAD, x -> x.fine(10));
        add(calls, "send(0, 41)", BAD, x -> x.send(0, 41));
        add(calls, "least(0, 21)", BAD, x -> x.least(0, 21));
        add(calls, "gain(0, 0, 21)", BAD, x -> x.gain(0, 0, 21));
        add(calls, "keep(2)", UNKNOWN, x -> x.keep(2));
        add(calls, "again(2)", UNKNOWN, x -> x.again(2));
        add(calls, "sorts(0, 9)", BAD, x -> x.sorts(0, 9));
        for (int v : new int[] {-1, 21, -8, -10, Check.LOWEST, Check.HIGHEST}) {
            add(calls, "tell(0, 0, " + v + ")", BAD, x -> x.tell(0, 0, v));
            add(calls, "tell(1, 39, " + v + ")", BAD, x -> x.tell(1, 39, v));
            add(calls, "note(0, 0, " + v + ")", BAD, x -> x.note(0, 0, v));
            add(calls, "note(5, 7, " + v + ")", BAD, x -> x.note(5, 7, v));
        }
        for (int person = 0; person < size; person++) {
            int one = person;
            add(calls, "paid of one to itself", BAD, x -> x.paid(one, one, 0));
            add(calls, "paid of one to itself, no round", UNKNOWN, x -> x.paid(one, one, 40));
        }
        return calls;
    }

    private static void refusedOf(List<Named> calls, int w) {
        add(calls, "ruled(" + w + ")", BAD, x -> x.ruled(w));
        add(calls, "person(0, " + w + ")", BAD, x -> x.person(0, w));
        add(calls, "count(" + w + ")", BAD, x -> x.count(w));
        add(calls, "fine(" + w + ")", BAD, x -> x.fine(w));
        add(calls, "send(0, " + w + ")", BAD, x -> x.send(0, w));
        add(calls, "least(0, " + w + ")", BAD, x -> x.least(0, w));
        add(calls, "gain(0, 0, " + w + ")", BAD, x -> x.gain(0, 0, w));
        add(calls, "keep(" + w + ")", UNKNOWN, x -> x.keep(w));
        add(calls, "again(" + w + ")", UNKNOWN, x -> x.again(w));
        add(calls, "sorts(0, " + w + ")", BAD, x -> x.sorts(0, w));
        add(calls, "would(" + w + ", 0, 0)", BAD, x -> x.would(w, 0, 0));
        add(calls, "slips(" + w + ", 0)", BAD, x -> x.slips(w, 0));
    }

    /** No such person, with all else right, and with all else wrong. */
    private static void refusedPerson(List<Named> calls, int p) {
        add(calls, "person(" + p + ", 0)", UNKNOWN, x -> x.person(p, 0));
        add(calls, "person(" + p + ", 3)", UNKNOWN, x -> x.person(p, 3));
        add(calls, "tell(" + p + ", 0, 5)", UNKNOWN, x -> x.tell(p, 0, 5));
        add(calls, "tell(" + p + ", 40, 21)", UNKNOWN, x -> x.tell(p, 40, 21));
        add(calls, "send(" + p + ", 0)", UNKNOWN, x -> x.send(p, 0));
        add(calls, "send(" + p + ", 41)", UNKNOWN, x -> x.send(p, 41));
        add(calls, "put(" + p + ", 0)", UNKNOWN, x -> x.put(p, 0));
        add(calls, "paid(" + p + ", 0, 0)", UNKNOWN, x -> x.paid(p, 0, 0));
        add(calls, "paid(0, " + p + ", 0)", UNKNOWN, x -> x.paid(0, p, 0));
        add(calls, "paid(" + p + ", " + p + ", 40)", UNKNOWN, x -> x.paid(p, p, 40));
        add(calls, "holds(" + p + ", 0)", UNKNOWN, x -> x.holds(p, 0));
        add(calls, "lost(" + p + ", 0)", UNKNOWN, x -> x.lost(p, 0));
        add(calls, "without(" + p + ")", UNKNOWN, x -> x.without(p));
        add(calls, "reply(" + p + ", 0)", UNKNOWN, x -> x.reply(p, 0));
        add(calls, "gain(" + p + ", 0, 0)", UNKNOWN, x -> x.gain(p, 0, 0));
        add(calls, "gain(" + p + ", 40, 21)", UNKNOWN, x -> x.gain(p, 40, 21));
        int book = p < 0 ? p : Math.max(6, p);
        add(calls, "note(" + book + ", 0, 5)", UNKNOWN, x -> x.note(book, 0, 5));
        add(calls, "note(" + book + ", 8, 21)", UNKNOWN, x -> x.note(book, 8, 21));
        add(calls, "would(0, " + book + ", 0)", UNKNOWN, x -> x.would(0, book, 0));
        add(calls, "would(1, " + book + ", 8)", UNKNOWN, x -> x.would(1, book, 8));
        add(calls, "slips(0, " + book + ")", UNKNOWN, x -> x.slips(0, book));
        add(calls, "slips(1, " + book + ")", UNKNOWN, x -> x.slips(1, book));
        add(calls, "sort(" + book + ")", UNKNOWN, x -> x.sort(book));
        add(calls, "sorts(" + book + ", 0)", UNKNOWN, x -> x.sorts(book, 0));
        add(calls, "sorts(" + book + ", 9)", UNKNOWN, x -> x.sorts(book, 9));
    }

    /** No such round, with all else right, and with all else wrong. */
    private static void refusedRound(List<Named> calls, int r) {
        add(calls, "tell(0, " + r + ", 5)", UNKNOWN, x -> x.tell(0, r, 5));
        add(calls, "tell(0, " + r + ", 21)", UNKNOWN, x -> x.tell(0, r, 21));
        add(calls, "put(0, " + r + ")", UNKNOWN, x -> x.put(0, r));
        add(calls, "paid(0, 1, " + r + ")", UNKNOWN, x -> x.paid(0, 1, r));
        add(calls, "pot(" + r + ")", UNKNOWN, x -> x.pot(r));
        add(calls, "here(" + r + ")", UNKNOWN, x -> x.here(r));
        add(calls, "holds(0, " + r + ")", UNKNOWN, x -> x.holds(0, r));
        add(calls, "all(" + r + ", false)", UNKNOWN, x -> x.all(r, false));
        add(calls, "all(" + r + ", true)", UNKNOWN, x -> x.all(r, true));
        add(calls, "lost(0, " + r + ")", UNKNOWN, x -> x.lost(0, r));
        add(calls, "vote(" + r + ")", UNKNOWN, x -> x.vote(r));
        add(calls, "least(" + r + ", 0)", UNKNOWN, x -> x.least(r, 0));
        add(calls, "least(" + r + ", 21)", UNKNOWN, x -> x.least(r, 21));
        add(calls, "reply(0, " + r + ")", UNKNOWN, x -> x.reply(0, r));
        add(calls, "gain(0, " + r + ", 0)", UNKNOWN, x -> x.gain(0, r, 0));
        add(calls, "gain(0, " + r + ", 21)", UNKNOWN, x -> x.gain(0, r, 21));
        add(calls, "rest(" + r + ")", UNKNOWN, x -> x.rest(r));
        int book = r < 0 ? r : Math.max(8, r == 40 ? 8 : r);
        add(calls, "note(0, " + book + ", 5)", UNKNOWN, x -> x.note(0, book, 5));
        add(calls, "note(0, " + book + ", 21)", UNKNOWN, x -> x.note(0, book, 21));
        add(calls, "would(0, 0, " + book + ")", UNKNOWN, x -> x.would(0, 0, book));
        add(calls, "would(1, 0, " + book + ")", UNKNOWN, x -> x.would(1, 0, book));
    }

    private static List<Named> refusedBySix() {
        List<Named> calls = refused(6);
        add(calls, "rule()", LATE, x -> x.rule());
        add(calls, "group()", LATE, x -> x.group());
        // 4, 3, 0 and 5 are OUT at the end: 1 and 2 must stay.
        for (int round : new int[] {0, 20, 39}) {
            add(calls, "send(1, " + round + ")", LATE, x -> x.send(1, round));
            add(calls, "send(2, " + round + ")", LATE, x -> x.send(2, round));
        }
        add(calls, "without(1)", LATE, x -> x.without(1));
        add(calls, "without(2)", LATE, x -> x.without(2));
        add(calls, "reply(3, 12)", LATE, x -> x.reply(3, 12));
        add(calls, "gain(3, 12, 0)", LATE, x -> x.gain(3, 12, 0));
        add(calls, "gain(3, 12, 16)", BAD, x -> x.gain(3, 12, 16));
        add(calls, "gain(3, 11, 16)", BAD, x -> x.gain(3, 11, 16));
        return calls;
    }

    private static List<Named> refusedByTwo() {
        List<Named> calls = refused(2);
        add(calls, "rule()", LATE, x -> x.rule());
        add(calls, "group()", LATE, x -> x.group());
        for (int round : new int[] {0, 20, 39}) {
            add(calls, "send(0, " + round + ")", LATE, x -> x.send(0, round));
            add(calls, "send(1, " + round + ")", LATE, x -> x.send(1, round));
        }
        add(calls, "whom()", LATE, x -> x.whom());
        add(calls, "without(0)", LATE, x -> x.without(0));
        add(calls, "part()", LATE, x -> x.part());
        add(calls, "parted()", LATE, x -> x.parted());
        add(calls, "again(1)", LATE, x -> x.again(1));
        return calls;
    }

    private static List<Named> refusedByFullText() {
        List<Named> calls = new ArrayList<>();
        for (int n = 4; n <= 8; n++) {
            int bytes = n;
            add(calls, "write(" + n + ", ..)", FULL, x -> x.write(bytes, 0x5A5A5A5A5A5A5A5AL));
        }
        add(calls, "write(0, ..)", BAD, x -> x.write(0, 0));
        add(calls, "write(9, ..)", BAD, x -> x.write(9, 0));
        add(calls, "rule()", LATE, x -> x.rule());
        add(calls, "group()", LATE, x -> x.group());
        return calls;
    }

    private static List<Named> refusedByNew() {
        List<Named> calls = refused(2);
        add(calls, "group() of nothing", LATE, x -> x.group());
        add(calls, "again(0)", LATE, x -> x.again(0));
        add(calls, "again(1)", LATE, x -> x.again(1));
        add(calls, "send(0, 0)", LATE, x -> x.send(0, 0));
        add(calls, "whom()", LATE, x -> x.whom());
        add(calls, "part()", LATE, x -> x.part());
        add(calls, "parted()", LATE, x -> x.parted());
        return calls;
    }

    /** Calls that only ask, whatever they answer. */
    private static List<Named> asking() {
        List<Named> calls = new ArrayList<>();
        add(calls, "fault(true)", ANY, x -> x.fault(true));
        add(calls, "fault(false)", ANY, x -> x.fault(false));
        add(calls, "put(0, 39)", ANY, x -> x.put(0, 39));
        add(calls, "paid(1, 0, 3)", ANY, x -> x.paid(1, 0, 3));
        add(calls, "all(39, true)", ANY, x -> x.all(39, true));
        add(calls, "fall()", ANY, x -> x.fall());
        add(calls, "pays()", ANY, x -> x.pays());
        add(calls, "vote(39)", ANY, x -> x.vote(39));
        add(calls, "least(5, 20)", ANY, x -> x.least(5, 20));
        add(calls, "leader()", ANY, x -> x.leader());
        add(calls, "led()", ANY, x -> x.led());
        add(calls, "whom()", ANY, x -> x.whom());
        add(calls, "without(0)", ANY, x -> x.without(0));
        add(calls, "part()", ANY, x -> x.part());
        add(calls, "parted()", ANY, x -> x.parted());
        add(calls, "reply(1, 5)", ANY, x -> x.reply(1, 5));
        add(calls, "gain(1, 5, 0)", ANY, x -> x.gain(1, 5, 0));
        add(calls, "rest(5)", ANY, x -> x.rest(5));
        add(calls, "would(200, 0, 1)", ANY, x -> x.would(200, 0, 1));
        add(calls, "slips(300, 1)", ANY, x -> x.slips(300, 1));
        add(calls, "sort(1)", ANY, x -> x.sort(1));
        add(calls, "sorts(1, 3)", ANY, x -> x.sorts(1, 3));
        add(calls, "holds(1, 39)", ANY, x -> x.holds(1, 39));
        add(calls, "lost(1, 39)", ANY, x -> x.lost(1, 39));
        add(calls, "pot(39)", ANY, x -> x.pot(39));
        add(calls, "send(1, 40): it stays", 40, x -> x.send(1, 40));
        return calls;
    }
}
