import java.util.ArrayList;
import java.util.Arrays;
import java.util.HashMap;
import java.util.List;
import java.util.Map;
import java.util.Random;

/** Long runs of calls, right and wrong ones, each answer held against a second, slow reading of the document. */
public final class ModelTest {
    private static final int OBJECTS = 400, CALLS = 512;

    public static void main(String[] args) {
        int wrong = 0;
        for (int seed = 0; seed < OBJECTS && wrong < 20; seed++) {
            wrong += run(seed);
        }
        System.out.println(wrong == 0 ? "all answers are the model's" : wrong + " answers are not the model's");
        if (wrong != 0) {
            System.exit(1);
        }
    }

    private static int run(int seed) {
        Random random = new Random(seed);
        PotAndFine object = new PotAndFine();
        Model model = new Model();
        Caller caller = new Caller(random, object, model);
        for (int call = 0; call < CALLS; call++) {
            String told = caller.next();
            if (caller.got != caller.want) {
                System.out.println("seed " + seed + ", call " + call + ": " + told + " answered " + caller.got
                    + ", the model says " + caller.want + ", rule " + Arrays.toString(model.rule)
                    + " group " + model.people + " told " + model.told + " out " + Arrays.toString(model.out));
                return 1;
            }
        }
        return 0;
    }

    /** Chooses calls and makes them on both. */
    private static final class Caller {
        final Random random;
        final PotAndFine x;
        final Model m;
        final List<String[]> waiting = new ArrayList<>();
        long got, want;

        Caller(Random random, PotAndFine x, Model m) {
            this.random = random;
            this.x = x;
            this.m = m;
        }

        int among(int low, int high) {
            return low + random.nextInt(high - low + 1);
        }

        /** Mostly from low to high, now and then beside it. */
        int near(int low, int high) {
            switch (random.nextInt(30)) {
                case 0: return low - 1;
                case 1: return high + 1;
                case 2: return new int[] {Integer.MIN_VALUE, Integer.MAX_VALUE, -9, -1, 100, 1000}[random.nextInt(6)];
                case 3: return low;
                case 4: return high;
                default: return among(low, high);
            }
        }

        int person() {
            return near(0, m.people.size() - 1);
        }

        int round() {
            return random.nextInt(3) == 0 ? near(0, 4) : near(0, 39);
        }

        int coins() {
            return random.nextInt(5) == 0 ? -9 : near(0, 20);
        }

        int sortCode() {
            int kind = random.nextInt(4);
            return kind == 0 ? near(0, 0) : 100 * kind + near(0, kind == 1 ? 20 : 9);
        }

        String two(int n) {
            return (n < 10 ? "0" : "") + n;
        }

        String ruleText() {
            List<String> parts = new ArrayList<>();
            if (random.nextInt(2) == 0) parts.add("E" + two(among(1, 20)));
            if (random.nextInt(2) == 0) parts.add("M" + two(among(0, 60)));
            if (random.nextInt(6) != 0) parts.add("F" + among(0, 9));
            if (random.nextInt(2) == 0) parts.add("C" + among(1, 9));
            java.util.Collections.shuffle(parts, random);
            return spoil(String.join("", parts));
        }

        String groupText() {
            StringBuilder text = new StringBuilder();
            int size = random.nextInt(25) == 0 ? among(0, 8) : among(2, 6);
            for (int i = 0; i < size; i++) {
                int letter = random.nextInt(9);
                if (letter == 0) text.append("P").append(two(among(0, 20)));
                else if (letter == 1) text.append("Z");
                else if (letter == 2) text.append("M").append(among(0, random.nextInt(10)));
                else if (letter == 8) text.append("L").append(among(0, 9));
                else text.append("GSVGV".charAt(letter - 3)).append(among(0, random.nextInt(10))).append(among(0, 9));
            }
            return spoil(text.toString());
        }

        String spoil(String text) {
            if (random.nextInt(5) != 0 || text.isEmpty()) {
                return text;
            }
            int at = random.nextInt(text.length());
            String signs = "EMFCPZGSVL0123456789 \u0000\u00e9/:";
            char sign = signs.charAt(random.nextInt(signs.length()));
            switch (random.nextInt(3)) {
                case 0: return text.substring(0, at);
                case 1: return text.substring(0, at) + sign + text.substring(at + 1);
                default: return text.substring(0, at) + sign + text.substring(at);
            }
        }

        void planText() {
            boolean group = random.nextBoolean();
            String text = group ? groupText() : ruleText();
            if (random.nextInt(8) != 0) waiting.add(new String[] {"wipe"});
            for (int at = 0; at < text.length(); ) {
                int n = Math.min(among(1, 8), text.length() - at);
                waiting.add(new String[] {"write", text.substring(at, at + n)});
                at += n;
            }
            waiting.add(new String[] {group ? "faultGroup" : "faultRule"});
            waiting.add(new String[] {group ? "group" : "rule"});
        }

        String next() {
            if (waiting.isEmpty() && random.nextInt(30) == 0) {
                planText();
            }
            if (!waiting.isEmpty()) {
                return planned(waiting.remove(0));
            }
            int call = random.nextInt(44);
            int p = person(), q = person(), r = round(), v = coins();
            int bp = near(0, 5), br = near(0, 7), s = sortCode(), slot = near(0, 1);
            switch (call) {
                case 0: { int n = random.nextInt(4) == 0 ? near(1, 8) : 1; long w = random.nextLong();
                    return both("write(" + n + ", " + w + ")", x.write(n, w), m.write(n, w)); }
                case 1: return random.nextInt(4) == 0 ? both("wipe()", x.wipe(), m.wipe())
                    : both("count(4)", x.count(4), m.count(4));
                case 2: return both("fault(true)", x.fault(true), m.fault(true));
                case 3: return both("fault(false)", x.fault(false), m.fault(false));
                case 4: { int w = near(0, 3); return both("ruled(" + w + ")", x.ruled(w), m.ruled(w)); }
                case 5: { int w = near(0, 2); return both("person(" + p + ", " + w + ")", x.person(p, w), m.person(p, w)); }
                case 6: case 7: case 8:
                    return both("tell(" + p + ", " + r + ", " + v + ")", x.tell(p, r, v), m.tell(p, r, v));
                case 9: { int to = random.nextInt(3) == 0 ? 40 : near(0, 40);
                    return both("send(" + p + ", " + to + ")", x.send(p, to), m.send(p, to)); }
                case 10: { int f = near(0, 9); return both("fine(" + f + ")", x.fine(f), m.fine(f)); }
                case 11: return both("put(" + p + ", " + r + ")", x.put(p, r), m.put(p, r));
                case 12: return both("paid(" + p + ", " + q + ", " + r + ")", x.paid(p, q, r), m.paid(p, q, r));
                case 13: return both("pot(" + r + ")", x.pot(r), m.pot(r));
                case 14: return both("here(" + r + ")", x.here(r), m.here(r));
                case 15: return both("holds(" + p + ", " + r + ")", x.holds(p, r), m.holds(p, r));
                case 16: return both("all(" + r + ", false)", x.all(r, false), m.all(r, false));
                case 17: return both("all(" + r + ", true)", x.all(r, true), m.all(r, true));
                case 18: return both("lost(" + p + ", " + r + ")", x.lost(p, r), m.lost(p, r));
                case 19: return both("fall()", x.fall(), m.fall());
                case 20: return both("pays()", x.pays(), m.pays());
                case 21: return both("vote(" + r + ")", x.vote(r), m.vote(r));
                case 22: { int w = random.nextInt(2) == 0 ? near(0, 20) : among(5, 12);
                    return both("least(" + r + ", " + w + ")", x.least(r, w), m.least(r, w)); }
                case 23: return both("leader()", x.leader(), m.leader());
                case 24: return both("led()", x.led(), m.led());
                case 25: return both("whom()", x.whom(), m.whom());
                case 26: return both("without(" + p + ")", x.without(p), m.without(p));
                case 27: return both("part()", x.part(), m.part());
                case 28: return both("parted()", x.parted(), m.parted());
                case 29: return both("reply(" + p + ", " + r + ")", x.reply(p, r), m.reply(p, r));
                case 30: { int w = near(0, m.rule[0]);
                    return both("gain(" + p + ", " + r + ", " + w + ")", x.gain(p, r, w), m.gain(p, r, w)); }
                case 31: return both("rest(" + r + ")", x.rest(r), m.rest(r));
                case 32: case 33:
                    return both("note(" + bp + ", " + br + ", " + v + ")", x.note(bp, br, v), m.note(bp, br, v));
                case 34: return both("would(" + s + ", " + bp + ", " + br + ")", x.would(s, bp, br), m.would(s, bp, br));
                case 35: return both("slips(" + s + ", " + bp + ")", x.slips(s, bp), m.slips(s, bp));
                case 36: return both("sort(" + bp + ")", x.sort(bp), m.sort(bp));
                case 37: { int n = near(0, 8); return both("sorts(" + bp + ", " + n + ")", x.sorts(bp, n), m.sorts(bp, n)); }
                case 38: return random.nextInt(3) == 0 ? both("copy()", x.copy(), m.copy())
                    : both("count(3)", x.count(3), m.count(3));
                case 39: return both("keep(" + slot + ")", x.keep(slot), m.keep(slot));
                case 40: return both("again(" + slot + ")", x.again(slot), m.again(slot));
                case 41: return both("group()", x.group(), m.group());
                case 42: return both("rule()", x.rule(), m.rule());
                default: { int w = near(0, 4); return both("count(" + w + ")", x.count(w), m.count(w)); }
            }
        }

        String planned(String[] plan) {
            switch (plan[0]) {
                case "wipe": return both("wipe()", x.wipe(), m.wipe());
                case "faultGroup": return both("fault(true)", x.fault(true), m.fault(true));
                case "faultRule": return both("fault(false)", x.fault(false), m.fault(false));
                case "group": return both("group()", x.group(), m.group());
                case "rule": return both("rule()", x.rule(), m.rule());
                default: {
                    long v = random.nextLong();
                    for (char sign : plan[1].toCharArray()) v = v << 8 | sign;
                    int n = plan[1].length();
                    return both("write(" + n + ", " + v + ")", x.write(n, v), m.write(n, v));
                }
            }
        }

        String both(String told, long got, long want) {
            this.got = got;
            this.want = want;
            return told;
        }
    }

    /** What each that is in put in a round, who paid what for whom, and what each got and lost by it. */
    private static final class Round {
        final Map<Integer, Integer> put = new HashMap<>();
        final Map<List<Integer>, Integer> paid = new HashMap<>();
        final Map<Integer, Long> got = new HashMap<>();
        final Map<Integer, Integer> lost = new HashMap<>();
    }

    private static final class Model {
        static final int UNKNOWN = -1, BAD = -2, LATE = -3, FULL = -4, NONE = -9;
        static final long ADDED = 1000000000L;
        String text = "";
        int[] rule = {20, 16, 0, 1};
        List<String> people = new ArrayList<>(List.of("Z", "Z"));
        Map<List<Integer>, Integer> told = new HashMap<>();
        int[] out = {40, 40, 40, 40, 40, 40};
        Map<List<Integer>, Integer> book = new HashMap<>();
        final List<List<Object>> kept = new ArrayList<>(Arrays.asList(null, null));

        // -- texts, by trying every part that there is

        static List<String> ruleParts() {
            List<String> parts = new ArrayList<>();
            for (int i = 1; i <= 20; i++) parts.add(String.format("E%02d", i));
            for (int i = 0; i <= 60; i++) parts.add(String.format("M%02d", i));
            for (int i = 0; i <= 9; i++) parts.add("F" + i);
            for (int i = 1; i <= 9; i++) parts.add("C" + i);
            return parts;
        }

        static List<String> groupParts() {
            List<String> parts = new ArrayList<>(List.of("Z"));
            for (int i = 0; i <= 20; i++) parts.add(String.format("P%02d", i));
            for (int i = 0; i <= 9; i++) parts.addAll(List.of("M" + i, "L" + i));
            for (int i = 0; i <= 99; i++) for (String letter : List.of("G", "S", "V")) parts.add(String.format("%s%02d", letter, i));
            return parts;
        }

        static final List<String> RULE_PARTS = ruleParts(), GROUP_PARTS = groupParts();

        static boolean fits(List<String> before, String part, boolean group) {
            if (group) return before.size() < 6;
            for (String other : before) if (other.charAt(0) == part.charAt(0)) return false;
            return true;
        }

        /** The parts of a text, or null; with open, those of a text that could go on to be one. */
        static List<String> split(List<String> before, String rest, boolean group, boolean open) {
            if (rest.isEmpty()) return open || !group || before.size() >= 2 ? before : null;
            for (String part : group ? GROUP_PARTS : RULE_PARTS) {
                if (!fits(before, part, group)) continue;
                if (open && part.startsWith(rest)) return before;
                if (rest.startsWith(part)) {
                    List<String> more = new ArrayList<>(before);
                    more.add(part);
                    return split(more, rest.substring(part.length()), group, open);
                }
            }
            return null;
        }

        int fault(boolean group) {
            if (split(List.of(), text, group, false) != null) return NONE;
            for (int i = 0; i < text.length(); i++) {
                if (split(List.of(), text.substring(0, i + 1), group, true) == null) return i;
            }
            return text.length();
        }

        int write(int n, long v) {
            if (n < 1 || n > 8) return BAD;
            if (text.length() + n > 40) return FULL;
            String more = "";
            for (int i = 0; i < n; i++, v >>>= 8) more = (char) (v % 256 < 0 ? v % 256 + 256 : v % 256) + more;
            text += more;
            return text.length();
        }

        int wipe() {
            int was = text.length();
            text = "";
            return was;
        }

        int rule() {
            List<String> parts = split(List.of(), text, false, false);
            if (parts == null) return LATE;
            rule = new int[] {20, 16, 0, 1};
            for (String part : parts) rule["EMFC".indexOf(part.charAt(0))] = Integer.parseInt(part.substring(1));
            return parts.size();
        }

        int group() {
            List<String> parts = split(List.of(), text, true, false);
            if (parts == null) return LATE;
            people = parts;
            told.clear();
            Arrays.fill(out, 40);
            kept.set(0, null);
            kept.set(1, null);
            return parts.size();
        }

        int ruled(int what) {
            return what < 0 || what > 3 ? BAD : rule[what];
        }

        static int letter(String one) {
            return "PZMGSVL".indexOf(one.charAt(0));
        }

        static int number(String one) {
            return one.equals("Z") ? 0 : one.startsWith("P") ? Integer.parseInt(one.substring(1)) : one.charAt(1) - '0';
        }

        static int anger(String one) {
            return "GSV".indexOf(one.charAt(0)) < 0 ? 0 : one.charAt(2) - '0';
        }

        boolean nobody(int p) {
            return p < 0 || p >= people.size();
        }

        static boolean never(int r) {
            return r < 0 || r > 39;
        }

        int person(int p, int what) {
            if (nobody(p)) return UNKNOWN;
            String one = people.get(p);
            return what == 0 ? letter(one) : what == 1 ? number(one) : what == 2 ? anger(one) : BAD;
        }

        // -- what is told

        int tell(int p, int r, int v) {
            if (nobody(p) || never(r)) return UNKNOWN;
            if (v != NONE && (v < 0 || v > 20)) return BAD;
            Integer was = v == NONE ? told.remove(List.of(p, r)) : told.put(List.of(p, r), v);
            return was == null ? NONE : was;
        }

        boolean twoAlways(int[] outs) {
            for (int r = 0; r < 40; r++) if (in(people.size(), outs, r).size() < 2) return false;
            return true;
        }

        static List<Integer> in(int size, int[] outs, int r) {
            List<Integer> in = new ArrayList<>();
            for (int p = 0; p < size; p++) if (outs[p] > r) in.add(p);
            return in;
        }

        int send(int p, int r) {
            if (nobody(p)) return UNKNOWN;
            if (r < 0 || r > 40) return BAD;
            int[] outs = out.clone();
            outs[p] = r;
            if (!twoAlways(outs)) return LATE;
            int was = out[p];
            out = outs;
            return was;
        }

        int fine(int f) {
            if (f < 0 || f > 9) return BAD;
            int was = rule[2];
            rule[2] = f;
            return was;
        }

        // -- rounds

        private List<Object> runFor = List.of();
        private List<Round> lastRun = List.of();

        // Kept for as long as all by which it was made is the same.
        List<Round> rounds() {
            List<Object> by = List.of(people, Arrays.toString(rule), new HashMap<>(told), Arrays.toString(out));
            if (!by.equals(runFor)) {
                runFor = by;
                lastRun = rounds(people, rule, told, out);
            }
            return lastRun;
        }

        static List<Round> rounds(List<String> people, int[] rule, Map<List<Integer>, Integer> told, int[] outs) {
            List<Round> rounds = new ArrayList<>();
            for (int r = 0; r < 40; r++) {
                Round before = r == 0 ? null : rounds.get(r - 1);
                Round now = new Round();
                List<Integer> in = in(people.size(), outs, r);
                for (int p : in) {
                    Integer forced = told.get(List.of(p, r));
                    int coins = forced != null ? forced : wants(people.get(p), p, in, before, rule);
                    now.put.put(p, Math.min(rule[0], Math.max(0, coins)));
                }
                fines(people, rule, before, now);
                rounds.add(now);
            }
            return rounds;
        }

        static int wants(String one, int p, List<Integer> in, Round before, int[] rule) {
            char letter = one.charAt(0);
            if (letter == 'Z') return 0;
            if (letter == 'P') return number(one);
            if (before == null) return (int) Math.floor(rule[0] / 2.0);
            if (letter == 'L') {
                int coins = before.paid.entrySet().stream().filter(e -> e.getKey().get(1) == p).mapToInt(Map.Entry::getValue).sum();
                return coins * rule[2] > 0 ? before.put.get(p) + coins * rule[2] : before.put.get(p) - number(one);
            }
            double mean = in.stream().filter(q -> q != p).mapToInt(before.put::get).average().getAsDouble();
            return (int) Math.floor(mean + 1e-9) - number(one);
        }

        /** Fills what is paid, got and lost by what was put. */
        static void fines(List<String> people, int[] rule, Round before, Round now) {
            int sum = now.put.values().stream().mapToInt(Integer::intValue).sum();
            int n = now.put.size();
            int mean = (int) Math.floor((double) sum / n + 1e-9);
            for (int p : now.put.keySet()) {
                String one = people.get(p);
                int most = now.put.entrySet().stream().filter(e -> e.getKey() != p).mapToInt(Map.Entry::getValue).max().getAsInt();
                boolean spited = false;
                for (int q = 0; q < people.size(); q++) {
                    if (q == p || !now.put.containsKey(q)) continue;
                    int pays = 0;
                    int short_ = mean - now.put.get(q);
                    if (one.charAt(0) == 'G' || one.charAt(0) == 'V') pays = short_ > 0 ? Math.min(9, short_ * anger(one) / 9) : 0;
                    if (one.charAt(0) == 'V' && before != null) pays = Math.min(9, pays + before.paid.getOrDefault(List.of(q, p), 0));
                    if (one.charAt(0) == 'S' && now.put.get(q) == most && !spited) {
                        spited = true;
                        pays = most > mean ? Math.min(9, (most - mean) * anger(one) / 9) : 0;
                    }
                    if (rule[2] > 0 && pays > 0) now.paid.put(List.of(p, q), pays);
                }
            }
            for (int p : now.put.keySet()) {
                int lost = 0;
                for (Map.Entry<List<Integer>, Integer> e : now.paid.entrySet()) {
                    if (e.getKey().get(0) == p) lost += rule[3] * e.getValue();
                    if (e.getKey().get(1) == p) lost += rule[2] * e.getValue();
                }
                long share = 600L * sum * rule[1];
                if (share % (10L * n) != 0) throw new IllegalStateException("parts are cut");
                now.lost.put(p, lost);
                now.got.put(p, 600L * (rule[0] - now.put.get(p)) + share / (10L * n) - 600L * lost);
            }
        }

        static long held(List<Round> rounds, int p, int r) {
            long sum = 0;
            for (Round round : rounds.subList(0, r + 1)) sum += round.got.getOrDefault(p, 0L);
            return sum;
        }

        static long heldByAll(List<Round> rounds, int r) {
            long sum = 0;
            for (int p = 0; p < 6; p++) sum += held(rounds, p, r);
            return sum;
        }

        static int potOf(Round round) {
            int sum = 0;
            for (int coins : round.put.values()) sum += coins;
            return sum;
        }

        int put(int p, int r) {
            return nobody(p) || never(r) ? UNKNOWN : rounds().get(r).put.getOrDefault(p, NONE);
        }

        int paid(int p, int q, int r) {
            if (nobody(p) || nobody(q) || never(r)) return UNKNOWN;
            return p == q ? BAD : rounds().get(r).paid.getOrDefault(List.of(p, q), 0);
        }

        int pot(int r) {
            return never(r) ? UNKNOWN : potOf(rounds().get(r));
        }

        int here(int r) {
            return never(r) ? UNKNOWN : rounds().get(r).put.size();
        }

        long holds(int p, int r) {
            return nobody(p) || never(r) ? UNKNOWN : ADDED + held(rounds(), p, r);
        }

        List<Round> withFine(int f) {
            return rounds(people, new int[] {rule[0], rule[1], f, rule[3]}, told, out);
        }

        long all(int r, boolean without) {
            return never(r) ? UNKNOWN : ADDED + heldByAll(without ? withFine(0) : rounds(), r);
        }

        int lost(int p, int r) {
            if (nobody(p) || never(r)) return UNKNOWN;
            int sum = 0;
            for (Round round : rounds().subList(0, r + 1)) sum += round.lost.getOrDefault(p, 0);
            return sum;
        }

        // -- what it comes to

        int fall() {
            List<Round> rounds = rounds();
            double first = potOf(rounds.get(0));
            for (int r = 0; r < 40 && first > 0; r++) if (potOf(rounds.get(r)) <= first / 2) return r;
            return NONE;
        }

        int pays() {
            List<Round> with = rounds(), without = withFine(0);
            for (int r = 0; r < 40; r++) {
                boolean greater = true;
                for (int later = r; later < 40; later++) greater &= heldByAll(with, later) > heldByAll(without, later);
                if (greater) return r;
            }
            return NONE;
        }

        int vote(int r) {
            if (never(r)) return UNKNOWN;
            List<Round> with = rounds(), without = withFine(0);
            int bits = 0;
            for (int p = 0; p < people.size(); p++) if (held(with, p, r) > held(without, p, r)) bits += 1 << p;
            return bits;
        }

        int least(int r, int v) {
            if (never(r)) return UNKNOWN;
            if (v < 0 || v > 20) return BAD;
            for (int f = 0; f < 10; f++) {
                Round round = withFine(f).get(r);
                if (potOf(round) >= v * round.put.size()) return f;
            }
            return NONE;
        }

        long ledBy(int p) {
            Map<List<Integer>, Integer> more = new HashMap<>(told);
            more.put(List.of(p, 0), rule[0]);
            return ADDED + heldByAll(rounds(people, rule, more, out), 39);
        }

        long led() {
            long most = 0;
            for (int p = 0; p < people.size(); p++) most = Math.max(most, ledBy(p));
            return most;
        }

        int leader() {
            long most = led();
            int p = 0;
            while (ledBy(p) != most) p++;
            return p;
        }

        long without(int p) {
            if (nobody(p)) return UNKNOWN;
            int[] outs = out.clone();
            outs[p] = 0;
            if (!twoAlways(outs)) return LATE;
            List<Round> rounds = rounds(people, rule, told, outs);
            long sum = ADDED;
            for (int q = 0; q < people.size(); q++) if (q != p) sum += held(rounds, q, 39);
            return sum;
        }

        int whom() {
            int best = LATE;
            for (int p = people.size() - 1; p >= 0; p--) {
                if (without(p) != LATE && (best == LATE || without(p) >= without(best))) best = p;
            }
            return best;
        }

        long halves(int bits) {
            long sum = 0;
            for (int side = 0; side < 2; side++) {
                List<String> half = new ArrayList<>();
                for (int p = 0; p < people.size(); p++) if ((bits >> p) % 2 == 1 - side) half.add(people.get(p));
                if (half.size() * 2 != people.size()) return -1;
                sum += heldByAll(rounds(half, rule, new HashMap<>(), new int[] {40, 40, 40, 40, 40, 40}), 39);
            }
            return ADDED + sum;
        }

        int part() {
            if (people.size() != 4 && people.size() != 6) return LATE;
            int best = 0;
            for (int bits = (1 << people.size()) - 1; bits > 0; bits -= 2) {
                long held = halves(bits);
                if (held >= 0 && (best == 0 || held >= halves(best))) best = bits;
            }
            return best;
        }

        long parted() {
            return part() == LATE ? LATE : halves(part());
        }

        long gain(int p, int r, int v) {
            if (nobody(p) || never(r)) return UNKNOWN;
            if (v < 0 || v > rule[0]) return BAD;
            if (out[p] <= r) return LATE;
            List<Round> rounds = rounds();
            Round changed = new Round();
            changed.put.putAll(rounds.get(r).put);
            changed.put.put(p, v);
            fines(people, rule, r == 0 ? null : rounds.get(r - 1), changed);
            return ADDED + changed.got.get(p);
        }

        int reply(int p, int r) {
            if (nobody(p) || never(r)) return UNKNOWN;
            if (out[p] <= r) return LATE;
            int best = rule[0];
            for (int v = rule[0]; v >= 0; v--) if (gain(p, r, v) >= gain(p, r, best)) best = v;
            return best;
        }

        int rest(int r) {
            if (never(r)) return UNKNOWN;
            for (int p : in(people.size(), out, r)) {
                for (int v = 0; v <= rule[0]; v++) if (gain(p, r, v) > gain(p, r, put(p, r))) return 0;
            }
            return 1;
        }

        // -- the book

        int note(int p, int r, int v) {
            if (p < 0 || p > 5 || r < 0 || r > 7) return UNKNOWN;
            if (v != NONE && (v < 0 || v > 20)) return BAD;
            Integer was = v == NONE ? book.remove(List.of(p, r)) : book.put(List.of(p, r), v);
            return was == null ? NONE : was;
        }

        static List<Integer> allSorts() {
            List<Integer> sorts = new ArrayList<>(List.of(0));
            for (int v = 100; v <= 120; v++) sorts.add(v);
            for (int d = 200; d <= 209; d++) sorts.add(d);
            for (int d = 300; d <= 309; d++) sorts.add(d);
            return sorts;
        }

        int would(int sort, int p, int r) {
            if (p < 0 || p > 5 || r < 0 || r > 7) return UNKNOWN;
            if (!allSorts().contains(sort)) return BAD;
            if (sort < 200) return sort == 0 ? 0 : sort - 100;
            List<Integer> taken = new ArrayList<>();
            for (int q = 0; q < 6; q++) {
                if ((q == p) == (sort >= 300) && book.containsKey(List.of(q, r - 1))) taken.add(book.get(List.of(q, r - 1)));
            }
            if (taken.isEmpty()) return NONE;
            int sum = 0;
            for (int coins : taken) sum += coins;
            return Math.max(0, (int) Math.floor((double) sum / taken.size() + 1e-9) - sort % 100);
        }

        int slips(int sort, int p) {
            if (p < 0 || p > 5) return UNKNOWN;
            if (!allSorts().contains(sort)) return BAD;
            int slips = 0;
            for (int r = 0; r < 8; r++) {
                Integer noted = book.get(List.of(p, r));
                int said = would(sort, p, r);
                if (noted != null && said != NONE && noted != said) slips++;
            }
            return slips;
        }

        int sort(int p) {
            if (p < 0 || p > 5) return UNKNOWN;
            int best = 0;
            for (int sort : allSorts()) if (slips(sort, p) < slips(best, p)) best = sort;
            return best;
        }

        int sorts(int p, int n) {
            if (p < 0 || p > 5) return UNKNOWN;
            if (n < 0 || n > 8) return BAD;
            return (int) allSorts().stream().filter(sort -> slips(sort, p) <= n).count();
        }

        int copy() {
            book.clear();
            List<Round> rounds = rounds();
            for (int r = 0; r < 8; r++) for (Map.Entry<Integer, Integer> e : rounds.get(r).put.entrySet()) book.put(List.of(e.getKey(), r), e.getValue());
            return book.size();
        }

        // -- slots

        int keep(int slot) {
            if (slot < 0 || slot > 1) return UNKNOWN;
            kept.set(slot, List.of(new HashMap<>(told), out.clone(), new HashMap<>(book)));
            return told.size();
        }

        @SuppressWarnings("unchecked")
        int again(int slot) {
            if (slot < 0 || slot > 1) return UNKNOWN;
            if (kept.get(slot) == null) return LATE;
            told = new HashMap<>((Map<List<Integer>, Integer>) kept.get(slot).get(0));
            out = ((int[]) kept.get(slot).get(1)).clone();
            book = new HashMap<>((Map<List<Integer>, Integer>) kept.get(slot).get(2));
            return told.size();
        }

        int count(int what) {
            switch (what) {
                case 0: return people.size();
                case 1: return told.size();
                case 2: return (int) Arrays.stream(out).filter(r -> r < 40).count();
                case 3: return book.size();
                case 4: return text.length();
                default: return BAD;
            }
        }
    }
}
