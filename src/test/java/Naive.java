import java.util.ArrayDeque;
import java.util.ArrayList;
import java.util.Deque;
import java.util.HashSet;
import java.util.List;
import java.util.Set;
import java.util.regex.Matcher;
import java.util.regex.Pattern;

/** The document told a second time, as slowly and as literally as can be: ModelTest compares the class with it. */
final class Naive {
    private static final int BAD = -1, NO = -2, FULL = -3, NONE = -4;
    private static final Pattern ITEM = Pattern.compile(
            "f(\\d\\d?);|i(\\d\\d?),(\\d\\d?);|d(\\d\\d?);|p(\\d\\d?),(\\d\\d?);|s(\\d\\d?),(\\d\\d?),(\\d\\d?);"
                    + "|b(\\d\\d?),(\\d\\d?),(\\d\\d?);");

    private record Mark(int saying, int stone, int person, int heard) { }

    private record State(Set<Integer> truth, List<Mark> marks, List<Integer> hours, int weeks) {
        State copy() {
            return new State(new HashSet<>(truth), new ArrayList<>(marks), new ArrayList<>(hours), weeks);
        }
    }

    /** What a text tells. */
    private static final class Told {
        int facts = 4;
        final Set<Integer> first = new HashSet<>();
        final List<int[]> laws = new ArrayList<>();
        final List<int[]> persons = new ArrayList<>();
        final List<int[]> stones = new ArrayList<>();
        final List<int[]> bids = new ArrayList<>();
        int items;
        int itemsOfFacts;
        int fault = NONE;

        Told(String text) {
            int at = 0;
            while (at < text.length()) {
                int end = text.indexOf(';', at);
                String item = end < 0 ? text.substring(at) : text.substring(at, end + 1);
                Matcher parts = ITEM.matcher(item);
                if (!parts.matches() || !take(item.charAt(0), numbers(parts))) {
                    fault = at;
                    return;
                }
                items++;
                at = end + 1;
            }
        }

        private static int[] numbers(Matcher parts) {
            List<Integer> numbers = new ArrayList<>();
            for (int g = 1; g <= parts.groupCount(); g++) {
                if (parts.group(g) != null) {
                    numbers.add(Integer.parseInt(parts.group(g)));
                }
            }
            return numbers.stream().mapToInt(Integer::intValue).toArray();
        }

        private boolean take(char letter, int[] n) {
            switch (letter) {
                case 'f':
                    itemsOfFacts++;
                    facts = n[0];
                    return itemsOfFacts == items + 1 && n[0] >= 1 && n[0] <= 8;
                case 'i':
                    return n[0] < 2 * facts && n[1] < 2 * facts && laws.add(n) && laws.size() <= 10;
                case 'd':
                    first.add(n[0]);
                    return n[0] < facts;
                case 'p':
                    return n[0] <= 40 && n[1] <= 9 && persons.add(n) && persons.size() <= 5;
                case 's':
                    return n[0] >= 1 && n[0] <= 6 && n[1] >= 1 && n[1] <= 9 && n[2] <= 3 && stones.add(n)
                            && stones.size() <= 5;
                default:
                    return n[0] < persons.size() && n[1] >= 1 && n[1] <= 6 && n[2] <= 99 && bids.add(n)
                            && bids.size() <= 6;
            }
        }

        boolean isWorld(Set<Integer> set) {
            for (int[] law : laws) {
                if (so(law[0], set) && !so(law[1], set)) {
                    return false;
                }
            }
            return true;
        }

        List<Set<Integer>> worlds() {
            List<Set<Integer>> worlds = new ArrayList<>();
            for (int bits = 0; bits < 1 << facts; bits++) {
                if (isWorld(setOf(bits))) {
                    worlds.add(setOf(bits));
                }
            }
            return worlds;
        }
    }

    private final StringBuilder text = new StringBuilder();
    private Told told = new Told("f3;i0,2;i4,1;d0;d1;p20,1;p9,5;s3,4,0;s2,2,1;");
    private List<Set<Integer>> worlds = told.worlds();
    private State now = beginning();
    private final Deque<State> past = new ArrayDeque<>();
    private final Deque<State> kept = new ArrayDeque<>();

    private static boolean so(int saying, Set<Integer> set) {
        return set.contains(saying / 2) == (saying % 2 == 0);
    }

    private static Set<Integer> setOf(int bits) {
        Set<Integer> set = new HashSet<>();
        for (int b = 0; b < 16; b++) {
            if ((bits & 1 << b) != 0) {
                set.add(b);
            }
        }
        return set;
    }

    private static int bitsOf(Iterable<Integer> set) {
        int bits = 0;
        for (int b : set) {
            bits |= 1 << b;
        }
        return bits;
    }

    private static int trueOf(int fact, Set<Integer> truth) {
        return truth.contains(fact) ? 2 * fact : 2 * fact + 1;
    }

    private State beginning() {
        return new State(new HashSet<>(told.first), new ArrayList<>(), freshHours(), 0);
    }

    private List<Integer> freshHours() {
        List<Integer> hours = new ArrayList<>();
        for (int[] person : told.persons) {
            hours.add(person[0]);
        }
        return hours;
    }

    private boolean badSet(int set) {
        return set < 0 || set >= 1 << told.facts;
    }

    private boolean badFact(int f) {
        return f < 0 || f >= told.facts;
    }

    private boolean badSaying(int saying) {
        return saying < 0 || saying >= 2 * told.facts;
    }

    private static boolean bad(int i, List<?> list) {
        return i < 0 || i >= list.size();
    }

    private int cost(int s) {
        return told.stones.get(s)[2] == 2 ? 1 : told.stones.get(s)[1];
    }

    private int free(State state, int s) {
        return told.stones.get(s)[0] - (int) state.marks.stream().filter(m -> m.stone == s).count();
    }

    private void remember() {
        past.push(now.copy());
        if (past.size() > 8) {
            past.removeLast();
        }
    }

    int write(int letter) {
        if (letter < 32 || letter > 126) {
            return BAD;
        }
        if (text.length() >= 200) {
            return FULL;
        }
        text.append((char) letter);
        return text.length();
    }

    int wipe() {
        int length = text.length();
        text.setLength(0);
        return length;
    }

    int fault() {
        return new Told(text.toString()).fault;
    }

    int lay() {
        Told next = new Told(text.toString());
        if (next.fault != NONE || next.persons.isEmpty() || next.stones.isEmpty() || !next.isWorld(next.first)) {
            return NO;
        }
        told = next;
        worlds = told.worlds();
        now = beginning();
        past.clear();
        kept.clear();
        return worlds.size();
    }

    int law(int k, int what) {
        return bad(k, told.laws) || what < 0 || what > 1 ? BAD : told.laws.get(k)[what];
    }

    int person(int i, int what) {
        if (bad(i, told.persons) || what < 0 || what > 2) {
            return BAD;
        }
        return what < 2 ? told.persons.get(i)[what] : now.hours.get(i);
    }

    int stone(int s, int what) {
        if (bad(s, told.stones) || what < 0 || what > 3) {
            return BAD;
        }
        return what < 3 ? told.stones.get(s)[what] : free(now, s);
    }

    int mark(int m, int what) {
        if (bad(m, now.marks) || what < 0 || what > 4) {
            return BAD;
        }
        Mark mark = now.marks.get(m);
        int[] all = {mark.saying, mark.stone, mark.person, mark.heard, so(mark.saying, now.truth) ? 1 : 0};
        return all[what];
    }

    int world(int k) {
        return k < 0 ? BAD : k >= worlds.size() ? NONE : bitsOf(worlds.get(k));
    }

    int deed(int set) {
        if (badSet(set)) {
            return BAD;
        }
        if (!worlds.contains(setOf(set))) {
            return NO;
        }
        remember();
        int changed = Integer.bitCount(bitsOf(now.truth) ^ set);
        now = new State(setOf(set), now.marks, now.hours, now.weeks);
        return changed;
    }

    int carve(int i, int s, int f, boolean truly) {
        if (bad(i, told.persons) || bad(s, told.stones) || badFact(f)) {
            return BAD;
        }
        if (now.hours.get(i) < cost(s) || free(now, s) == 0) {
            return NO;
        }
        if (now.marks.size() == 12) {
            return FULL;
        }
        remember();
        now.hours.set(i, now.hours.get(i) - cost(s));
        boolean sayItIs = now.truth.contains(f) == truly;
        now.marks.add(new Mark(sayItIs ? 2 * f : 2 * f + 1, s, i, 0));
        return now.marks.size() - 1;
    }

    int chisel(int i, int m) {
        if (bad(i, told.persons) || bad(m, now.marks)) {
            return BAD;
        }
        int cost = cost(now.marks.get(m).stone);
        if (now.hours.get(i) < cost) {
            return NO;
        }
        remember();
        now.hours.set(i, now.hours.get(i) - cost);
        now.marks.remove(m);
        return now.marks.size();
    }

    private State rung(State state) {
        List<Mark> left = new ArrayList<>();
        for (Mark mark : state.marks) {
            int heard = mark.heard + 1;
            int[] stone = told.stones.get(mark.stone);
            boolean worn = stone[2] == 1 && heard == stone[1] || stone[2] == 2 && heard == 2;
            if (!worn) {
                left.add(new Mark(mark.saying, mark.stone, mark.person, heard));
            }
        }
        return new State(state.truth, left, freshHours(), state.weeks + 1);
    }

    int bell() {
        if (now.weeks == 999) {
            return NO;
        }
        remember();
        now = rung(now);
        return now.marks.size();
    }

    int undo() {
        if (past.isEmpty()) {
            return NO;
        }
        now = past.pop();
        return past.size();
    }

    private int handsOf(List<Mark> marks, int saying) {
        Set<Integer> persons = new HashSet<>();
        boolean arch = false;
        for (Mark mark : marks) {
            if (mark.saying == saying) {
                persons.add(mark.person);
                arch |= mark.stone >= 0 && told.stones.get(mark.stone)[2] == 3;
            }
        }
        return persons.size() + (arch ? 1 : 0);
    }

    private Set<Integer> read(List<Mark> marks, int rule) {
        Set<Integer> read = new HashSet<>();
        for (int saying = 0; saying < 2 * told.facts; saying++) {
            if (handsOf(marks, saying) >= rule) {
                read.add(saying);
            }
        }
        return read;
    }

    private List<Set<Integer>> possible(Set<Integer> read) {
        List<Set<Integer>> possible = new ArrayList<>();
        for (Set<Integer> world : worlds) {
            if (read.stream().allMatch(saying -> so(saying, world))) {
                possible.add(world);
            }
        }
        return possible;
    }

    private boolean isKnown(int saying, Set<Integer> read) {
        List<Set<Integer>> possible = possible(read);
        return !possible.isEmpty() && possible.stream().allMatch(world -> so(saying, world));
    }

    private int right(Set<Integer> read, Set<Integer> truth) {
        int right = 0;
        for (int f = 0; f < told.facts; f++) {
            right += isKnown(trueOf(f, truth), read) ? 1 : 0;
        }
        return right;
    }

    private int wrong(Set<Integer> read, Set<Integer> truth) {
        int wrong = 0;
        for (int f = 0; f < told.facts; f++) {
            wrong += isKnown(trueOf(f, truth) ^ 1, read) ? 1 : 0;
        }
        return wrong;
    }

    int known(int h, int what) {
        if (h < 1 || h > 2 || what < 0 || what > 5) {
            return BAD;
        }
        Set<Integer> read = read(now.marks, h);
        int so = 0;
        int notSo = 0;
        for (int f = 0; f < told.facts; f++) {
            so |= isKnown(2 * f, read) ? 1 << f : 0;
            notSo |= isKnown(2 * f + 1, read) ? 1 << f : 0;
        }
        int[] all = {so, notSo, right(read, now.truth), wrong(read, now.truth), bitsOf(read),
                possible(read).isEmpty() ? 1 : 0};
        return all[what];
    }

    int hands(int saying) {
        return badSaying(saying) ? BAD : handsOf(now.marks, saying);
    }

    long belief(int f, int part) {
        if (badFact(f) || part < 0 || part > 1) {
            return BAD;
        }
        java.math.BigInteger above = java.math.BigInteger.ZERO;
        java.math.BigInteger below = java.math.BigInteger.ZERO;
        for (Set<Integer> world : worlds) {
            java.math.BigInteger weight = java.math.BigInteger.ONE;
            for (Mark mark : now.marks) {
                int lies = told.persons.get(mark.person)[1];
                weight = weight.multiply(java.math.BigInteger.valueOf(so(mark.saying, world) ? 10 - lies : lies));
            }
            below = below.add(weight);
            above = world.contains(f) ? above.add(weight) : above;
        }
        if (below.signum() == 0) {
            return NONE;
        }
        return (part == 0 ? above : below).divide(above.gcd(below)).longValueExact();
    }

    private int leastOf(int set) {
        int best = -1;
        for (int told = 0; !badSet(told); told++) {
            Set<Integer> read = new HashSet<>();
            for (int f : setOf(told)) {
                read.add(trueOf(f, now.truth));
            }
            boolean fewer = best < 0 || Integer.bitCount(told) < Integer.bitCount(best);
            if (fewer && setOf(set).stream().allMatch(f -> isKnown(2 * f, read) || isKnown(2 * f + 1, read))) {
                best = told;
            }
        }
        return best;
    }

    int least(int set) {
        return badSet(set) ? BAD : leastOf(set);
    }

    int soonest(int set) {
        if (badSet(set)) {
            return BAD;
        }
        List<Integer> rooms = new ArrayList<>();
        for (int s = 0; s < told.stones.size(); s++) {
            for (int r = 0; r < free(now, s); r++) {
                rooms.add(cost(s));
            }
        }
        rooms.sort(null);
        int needed = Integer.bitCount(leastOf(set));
        return needed > rooms.size() ? NONE : rooms.subList(0, needed).stream().mapToInt(Integer::intValue).sum();
    }

    private int[] lieOf(int i, int h) {
        int[] best = {NONE, wrong(read(now.marks, h), now.truth)};
        for (int saying = 0; saying < 2 * told.facts; saying++) {
            if (!so(saying, now.truth)) {
                List<Mark> marks = new ArrayList<>(now.marks);
                marks.add(new Mark(saying, -1, i, 0));
                int wrong = wrong(read(marks, h), now.truth);
                if (wrong > best[1]) {
                    best = new int[] {saying, wrong};
                }
            }
        }
        return best;
    }

    int lie(int i, int h, int what) {
        if (bad(i, told.persons) || h < 1 || h > 2 || what < 0 || what > 1) {
            return BAD;
        }
        int[] lie = lieOf(i, h);
        return lie[0] == NONE ? NONE : lie[what];
    }

    int safe(int h) {
        if (h < 1 || h > 2) {
            return BAD;
        }
        for (int i = 0; i < told.persons.size(); i++) {
            if (lieOf(i, h)[0] != NONE) {
                return 0;
            }
        }
        return 1;
    }

    private boolean together(int marks) {
        Set<Integer> sayings = new HashSet<>();
        for (int m : setOf(marks)) {
            sayings.add(now.marks.get(m).saying);
        }
        return !possible(sayings).isEmpty();
    }

    int clash() {
        int best = NONE;
        for (int set = 0; set < 1 << now.marks.size(); set++) {
            boolean fewer = best == NONE || Integer.bitCount(set) < Integer.bitCount(best);
            if (fewer && !together(set)) {
                best = set;
            }
        }
        return best;
    }

    int stand(int what) {
        if (what < 0 || what > 1) {
            return BAD;
        }
        int[] most = {0, 0};
        for (int set = 0; set < 1 << now.marks.size(); set++) {
            if (Integer.bitCount(set) >= most[0] && together(set)) {
                most = new int[] {Integer.bitCount(set), Integer.bitCount(set) == most[0] ? most[1] + 1 : 1};
            }
        }
        return most[what];
    }

    int was(int saying) {
        if (badSaying(saying)) {
            return BAD;
        }
        Set<Integer> found = new HashSet<>();
        for (int gone = 0; gone < 2 * told.facts; gone++) {
            Set<Integer> read = read(now.marks, 1);
            read.add(gone);
            if (isKnown(saying, read)) {
                found.add(gone);
            }
        }
        return bitsOf(found);
    }

    int missed() {
        int best = NONE;
        int least = 99;
        for (int m = 0; m < now.marks.size(); m++) {
            List<Mark> rest = new ArrayList<>(now.marks);
            rest.remove(m);
            int right = right(read(rest, 1), now.truth);
            if (right < least) {
                least = right;
                best = m;
            }
        }
        return best;
    }

    int sale(int n, int b) {
        if (n < 1 || n > 12 || b < -1 || b >= told.bids.size()) {
            return BAD;
        }
        List<Integer> order = new ArrayList<>();
        for (int k = 0; k < told.bids.size(); k++) {
            order.add(k);
        }
        order.sort((k, l) -> told.bids.get(l)[2] - told.bids.get(k)[2]);
        int left = n;
        int price = 0;
        for (int k : order) {
            int got = Math.min(left, told.bids.get(k)[1]);
            if (k == b) {
                return got;
            }
            price = got < told.bids.get(k)[1] ? Math.max(price, told.bids.get(k)[2]) : price;
            left -= got;
        }
        return price;
    }

    int worth() {
        return told.facts - right(read(now.marks, 1), now.truth);
    }

    int two(int f, int g) {
        if (badFact(f) || badFact(g) || f == g) {
            return BAD;
        }
        Set<Integer> read = read(now.marks, 1);
        read.add(trueOf(f, now.truth));
        read.add(trueOf(g, now.truth));
        return right(read, now.truth);
    }

    int year(int z, int n, int what) {
        if (z < 0 || z > 9999 || n < 1 || n > 60 || what < 0 || what > 1) {
            return BAD;
        }
        State then = now.copy();
        int bells = 0;
        for (int k = 0; k < n; k++) {
            java.math.BigInteger x = java.math.BigInteger.valueOf(7919L * z + 6151L * k + 1);
            int draw = x.multiply(x).mod(java.math.BigInteger.valueOf(65521)).intValueExact();
            then = new State(worlds.get(draw % worlds.size()), then.marks, then.hours, then.weeks);
            for (int s = 0; s < told.stones.size(); s++) {
                if (free(then, s) > 0) {
                    if (draw / 8 % 2 == 0 && then.marks.size() < 12) {
                        int saying = trueOf(draw / 128 % told.facts, then.truth);
                        then.marks.add(new Mark(saying, s, draw / 16 % told.persons.size(), 0));
                    }
                    break;
                }
            }
            then = rung(then);
            bells += wrong(read(then.marks, 1), then.truth) == 0 ? 1 : 0;
        }
        return what == 0 ? bells : then.marks.size();
    }

    int keep() {
        if (kept.size() == 2) {
            return FULL;
        }
        kept.push(now.copy());
        return kept.size();
    }

    int back() {
        if (kept.isEmpty()) {
            return NO;
        }
        now = kept.pop();
        past.clear();
        return kept.size();
    }

    int count(int what) {
        int[] all = {told.facts, told.laws.size(), told.persons.size(), told.stones.size(), told.bids.size(),
                worlds.size(), bitsOf(now.truth), now.marks.size(), now.weeks, past.size(), kept.size(), text.length()};
        return what < 0 || what > 11 ? BAD : all[what];
    }
}
