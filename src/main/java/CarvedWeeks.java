/**
 * A town that forgets each Sunday all but what is carved on its stones.
 * The document DOC.md tells, as numbered promises, what each call answers; words in capitals here are its words.
 */
public final class CarvedWeeks {
    public static final int BAD = -1, NO = -2, FULL = -3, NONE = -4;

    private static final String FIRST_TEXT = "f3;i0,2;i4,1;d0;d1;p20,1;p9,5;s3,4,0;s2,2,1;";

    private static final int MOST_LETTERS = 200, MOST_FACTS = 8, FACTS_UNTOLD = 4, MOST_LAWS = 10, MOST_PERSONS = 5,
            MOST_STONES = 5, MOST_BIDS = 6, MOST_MARKS = 12, MOST_UNDONE = 8, MOST_KEPT = 2, MOST_WORLDS = 256;
    private static final int MOST_HOURS = 40, MOST_LIES = 9, MOST_ROOM = 6, MOST_HARDNESS = 9, MOST_KIND = 3,
            MOST_OFFER = 99, MOST_ROOMS_SOLD = 12, MOST_BELLS = 999, MOST_SEED = 9999, MOST_WEEKS = 60;

    // the columns of the tables of laws, persons, stones, bids, WORLDS and marks
    private static final int IF = 0, THEN = 1;
    private static final int HOURS = 0, LIES = 1;
    private static final int ROOM = 0, HARDNESS = 1, KIND = 2;
    private static final int WANTED = 1, OFFER = 2;
    private static final int FACTS = 0, SAYINGS = 1;
    private static final int SAYING = 0, STONE = 1, CUTTER = 2, HEARD = 3;

    private static final int LIMESTONE = 1, SKIN = 2, ARCH = 3;
    private static final int SKIN_HOURS = 1, SKIN_BELLS = 2;
    private static final int NOBODY = -1, NO_MARK = -1;

    private final Text text;
    private final Shelf past;
    private final Shelf kept;
    private final Week now;
    /** A YEAR is lived here, so that it changes nothing. */
    private final Week dreamt;
    private Town laid;
    /** A text is read into this town first, so that one with a fault leaves the laid one as it is. */
    private Town draft;

    public CarvedWeeks() {
        text = new Text();
        past = new Shelf(MOST_UNDONE);
        kept = new Shelf(MOST_KEPT);
        now = new Week();
        dreamt = new Week();
        laid = new Town();
        draft = new Town();
        for (int i = 0; i < FIRST_TEXT.length(); i++) {
            text.letters.add(FIRST_TEXT.charAt(i), 0, 0);
        }
        text.readInto(laid);
        laid.findWorlds();
        now.begin(laid);
        text.letters.clear();
    }

    // ---- towns

    public int write(int letter) {
        if (letter < 32 || letter > 126) {
            return BAD;
        }
        return text.letters.add(letter, 0, 0) ? text.letters.size() : FULL;
    }

    public int wipe() {
        int length = text.letters.size();
        text.letters.clear();
        return length;
    }

    public int fault() {
        return text.readInto(draft);
    }

    public int lay() {
        if (text.readInto(draft) != NONE || draft.persons.size() < 1 || draft.stones.size() < 1
                || !draft.isWorld(draft.soAtFirst)) {
            return NO;
        }
        Town old = laid;
        laid = draft;
        draft = old;
        laid.findWorlds();
        now.begin(laid);
        past.clear();
        kept.clear();
        return laid.worlds.size();
    }

    public int law(int k, int what) {
        if (!laid.laws.has(k) || what < IF || what > THEN) {
            return BAD;
        }
        return laid.laws.get(k, what);
    }

    public int person(int i, int what) {
        if (!laid.persons.has(i) || what < 0 || what > 2) {
            return BAD;
        }
        return what == 2 ? now.hoursLeft.get(i, 0) : laid.persons.get(i, what);
    }

    public int stone(int s, int what) {
        if (!laid.stones.has(s) || what < 0 || what > 3) {
            return BAD;
        }
        return what == 3 ? now.freeRoom(laid, s) : laid.stones.get(s, what);
    }

    public int mark(int m, int what) {
        if (!now.marks.has(m) || what < 0 || what > 4) {
            return BAD;
        }
        if (what == 4) {
            return isSo(now.marks.get(m, SAYING), now.truth) ? 1 : 0;
        }
        return now.marks.get(m, what);
    }

    public int world(int k) {
        if (k < 0) {
            return BAD;
        }
        return laid.worlds.has(k) ? laid.worlds.get(k, FACTS) : NONE;
    }

    // ---- weeks

    public int deed(int set) {
        if (!laid.isSet(set)) {
            return BAD;
        }
        if (!laid.isWorld(set)) {
            return NO;
        }
        past.push(now);
        int changed = Integer.bitCount(now.truth ^ set);
        now.truth = set;
        return changed;
    }

    public int carve(int i, int s, int f, boolean truly) {
        if (!laid.persons.has(i) || !laid.stones.has(s) || !laid.isFact(f)) {
            return BAD;
        }
        if (now.hoursLeft.get(i, 0) < laid.hoursAt(s) || now.freeRoom(laid, s) < 1) {
            return NO;
        }
        if (now.marks.isFull()) {
            return FULL;
        }
        past.push(now);
        now.spend(i, laid.hoursAt(s));
        int saying = trueSaying(f, now.truth);
        now.marks.add(truly ? saying : opposite(saying), s, i);
        return now.marks.size() - 1;
    }

    public int chisel(int i, int m) {
        if (!laid.persons.has(i) || !now.marks.has(m)) {
            return BAD;
        }
        int hours = laid.hoursAt(now.marks.get(m, STONE));
        if (now.hoursLeft.get(i, 0) < hours) {
            return NO;
        }
        past.push(now);
        now.spend(i, hours);
        now.marks.remove(m);
        return now.marks.size();
    }

    public int bell() {
        if (now.weeks >= MOST_BELLS) {
            return NO;
        }
        past.push(now);
        now.ring(laid);
        return now.marks.size();
    }

    public int undo() {
        if (past.size() < 1) {
            return NO;
        }
        past.pop(now);
        return past.size();
    }

    // ---- Mondays

    public int known(int h, int what) {
        if (!isRule(h) || what < 0 || what > 5) {
            return BAD;
        }
        int read = now.readBy(laid, h);
        switch (what) {
            case 0:
                return laid.factsSaid(laid.knownFrom(read), 0);
            case 1:
                return laid.factsSaid(laid.knownFrom(read), 1);
            case 2:
                return rightFrom(read);
            case 3:
                return wrongFrom(now, read);
            case 4:
                return read;
            default:
                return laid.isPossible(read) ? 0 : 1;
        }
    }

    public int hands(int saying) {
        return laid.isSaying(saying) ? now.handsOf(laid, saying, NOBODY) : BAD;
    }

    public long belief(int f, int part) {
        if (!laid.isFact(f) || part < 0 || part > 1) {
            return BAD;
        }
        long above = 0;
        long below = 0;
        for (int w = 0; w < laid.worlds.size(); w++) {
            int set = laid.worlds.get(w, FACTS);
            long weight = now.weightOf(laid, set);
            below += weight;
            if (isSo(2 * f, set)) {
                above += weight;
            }
        }
        long divisor = commonDivisor(below, above);
        if (below == 0 || divisor == 0) {
            return NONE;
        }
        return part == 0 ? above / divisor : below / divisor;
    }

    // ---- what to cut

    public int least(int set) {
        return laid.isSet(set) ? leastFor(set) : BAD;
    }

    public int soonest(int set) {
        if (!laid.isSet(set)) {
            return BAD;
        }
        int toCut = Integer.bitCount(leastFor(set));
        int hours = 0;
        for (int each = 1; each <= MOST_HARDNESS; each++) {
            for (int s = 0; s < laid.stones.size(); s++) {
                if (laid.hoursAt(s) == each) {
                    int here = Math.min(toCut, now.freeRoom(laid, s));
                    toCut -= here;
                    hours += here * each;
                }
            }
        }
        return toCut > 0 ? NONE : hours;
    }

    // ---- lies

    public int lie(int i, int h, int what) {
        if (!laid.persons.has(i) || !isRule(h) || what < 0 || what > 1) {
            return BAD;
        }
        int saying = bestLie(i, h);
        if (saying == NONE || what == 0) {
            return saying;
        }
        return wrongByLie(i, h, saying, now.readBy(laid, h));
    }

    public int safe(int h) {
        if (!isRule(h)) {
            return BAD;
        }
        for (int i = 0; i < laid.persons.size(); i++) {
            if (bestLie(i, h) != NONE) {
                return 0;
            }
        }
        return 1;
    }

    // ---- marks that disagree

    public int clash() {
        int sets = 1 << now.marks.size();
        if (laid.isPossible(now.sayingsOf(sets - 1))) {
            return NONE;
        }
        for (int size = 1; size <= now.marks.size(); size++) {
            for (int set = 0; set < sets; set++) {
                if (Integer.bitCount(set) == size && !laid.isPossible(now.sayingsOf(set))) {
                    return set;
                }
            }
        }
        return NONE;
    }

    public int stand(int what) {
        if (what < 0 || what > 1) {
            return BAD;
        }
        int most = 0;
        for (int w = 0; w < laid.worlds.size(); w++) {
            most = Math.max(most, Integer.bitCount(now.marksSoIn(laid.worlds.get(w, FACTS))));
        }
        return what == 0 ? most : standingSets(most);
    }

    public int was(int saying) {
        if (!laid.isSaying(saying)) {
            return BAD;
        }
        int read = now.carvedBut(NO_MARK);
        int found = 0;
        for (int gone = 0; gone < 2 * laid.facts; gone++) {
            if ((laid.knownFrom(read | 1 << gone) >> saying & 1) == 1) {
                found |= 1 << gone;
            }
        }
        return found;
    }

    public int missed() {
        int found = NONE;
        int leastRight = MOST_FACTS + 1;
        for (int m = 0; m < now.marks.size(); m++) {
            int right = rightFrom(now.carvedBut(m));
            if (right < leastRight) {
                leastRight = right;
                found = m;
            }
        }
        return found;
    }

    // ---- rooms, worths

    public int sale(int n, int b) {
        if (n < 1 || n > MOST_ROOMS_SOLD || b < -1 || b >= laid.bids.size()) {
            return BAD;
        }
        int price = 0;
        int left = n;
        int served = 0;
        for (int turn = 0; turn < laid.bids.size(); turn++) {
            int bid = laid.highestBidBut(served);
            int wanted = laid.bids.get(bid, WANTED);
            int got = Math.min(wanted, left);
            if (bid == b) {
                return got;
            }
            if (got < wanted) {
                price = Math.max(price, laid.bids.get(bid, OFFER));
            }
            left -= got;
            served |= 1 << bid;
        }
        return price;
    }

    public int worth() {
        return laid.facts - rightFrom(now.carvedBut(NO_MARK));
    }

    public int two(int f, int g) {
        if (!laid.isFact(f) || !laid.isFact(g) || f == g) {
            return BAD;
        }
        int remembered = 1 << trueSaying(f, now.truth) | 1 << trueSaying(g, now.truth);
        return rightFrom(now.carvedBut(NO_MARK) | remembered);
    }

    public int year(int z, int n, int what) {
        if (z < 0 || z > MOST_SEED || n < 1 || n > MOST_WEEKS || what < 0 || what > 1) {
            return BAD;
        }
        dreamt.copyFrom(now);
        int bells = 0;
        for (int k = 0; k < n; k++) {
            dreamt.live(laid, draw(z, k));
            if (wrongFrom(dreamt, dreamt.carvedBut(NO_MARK)) == 0) {
                bells++;
            }
        }
        return what == 0 ? bells : dreamt.marks.size();
    }

    public int keep() {
        if (kept.isFull()) {
            return FULL;
        }
        kept.push(now);
        return kept.size();
    }

    public int back() {
        if (kept.size() < 1) {
            return NO;
        }
        kept.pop(now);
        past.clear();
        return kept.size();
    }

    public int count(int what) {
        switch (what) {
            case 0:
                return laid.facts;
            case 1:
                return laid.laws.size();
            case 2:
                return laid.persons.size();
            case 3:
                return laid.stones.size();
            case 4:
                return laid.bids.size();
            case 5:
                return laid.worlds.size();
            case 6:
                return now.truth;
            case 7:
                return now.marks.size();
            case 8:
                return now.weeks;
            case 9:
                return past.size();
            case 10:
                return kept.size();
            case 11:
                return text.letters.size();
            default:
                return BAD;
        }
    }

    // ---- behind the face

    private static boolean isRule(int h) {
        return h == 1 || h == 2;
    }

    private static boolean isSo(int saying, int set) {
        return ((set >> (saying >> 1) ^ saying) & 1) == 1;
    }

    private static int trueSaying(int fact, int set) {
        return isSo(2 * fact, set) ? 2 * fact : 2 * fact + 1;
    }

    private static int opposite(int saying) {
        return saying ^ 1;
    }

    /** The greatest common divisor; the bound stands far above the steps that two longs can need. */
    private static long commonDivisor(long a, long b) {
        long larger = a;
        long smaller = b;
        for (int step = 0; step < 1000 && smaller != 0; step++) {
            long rest = larger % smaller;
            larger = smaller;
            smaller = rest;
        }
        return larger;
    }

    private static int draw(int z, int k) {
        long x = 7919L * z + 6151L * k + 1;
        return (int) (x * x % 65521);
    }

    private int rightFrom(int read) {
        return Integer.bitCount(laid.knownFrom(read) & laid.sayingsIn(now.truth));
    }

    private int wrongFrom(Week week, int read) {
        return Integer.bitCount(laid.knownFrom(read) & ~laid.sayingsIn(week.truth));
    }

    private int leastFor(int set) {
        for (int size = 0; size < laid.facts; size++) {
            for (int told = 0; told <= laid.allFacts(); told++) {
                if (Integer.bitCount(told) == size && laid.tells(told, set, now.truth)) {
                    return told;
                }
            }
        }
        return laid.allFacts();
    }

    /** The SAYING of a LIE, or NONE. */
    private int bestLie(int i, int h) {
        int read = now.readBy(laid, h);
        int most = wrongFrom(now, read);
        int found = NONE;
        for (int f = 0; f < laid.facts; f++) {
            int saying = opposite(trueSaying(f, now.truth));
            int wrong = wrongByLie(i, h, saying, read);
            if (wrong > most) {
                most = wrong;
                found = saying;
            }
        }
        return found;
    }

    private int wrongByLie(int i, int h, int saying, int readNow) {
        boolean read = now.handsOf(laid, saying, i) >= h;
        return wrongFrom(now, read ? readNow | 1 << saying : readNow);
    }

    /** How many sets of that most marks stand: each is all that is so in a WORLD, counted at the first such one. */
    private int standingSets(int most) {
        int sets = 0;
        for (int w = 0; w < laid.worlds.size(); w++) {
            int set = now.marksSoIn(laid.worlds.get(w, FACTS));
            if (Integer.bitCount(set) == most && !stoodBefore(set, w)) {
                sets++;
            }
        }
        return sets;
    }

    private boolean stoodBefore(int set, int world) {
        for (int w = 0; w < world; w++) {
            if (now.marksSoIn(laid.worlds.get(w, FACTS)) == set) {
                return true;
            }
        }
        return false;
    }

    /** Rows of numbers up to a limit, made once; what lies outside is read as 0 and not written. */
    private static final class Table {
        private final int most;
        private final int width;
        private final int[] cells;
        private int size;

        Table(int most, int width) {
            int length = most * width;
            this.most = most;
            this.width = width;
            this.cells = new int[length > 0 ? length : 0];
        }

        int size() {
            return size;
        }

        boolean isFull() {
            return size >= most;
        }

        boolean has(int row) {
            return row >= 0 && row < size;
        }

        void clear() {
            size = 0;
        }

        private int placeOf(int row, int column) {
            return row >= 0 && row < size && column >= 0 && column < width ? row * width + column : -1;
        }

        int get(int row, int column) {
            int place = placeOf(row, column);
            return place >= 0 && place < cells.length ? cells[place] : 0;
        }

        void set(int row, int column, int value) {
            int place = placeOf(row, column);
            if (place >= 0 && place < cells.length) {
                cells[place] = value;
            }
        }

        /** One row more, of as many of these numbers as it is wide and of 0 behind them; false if it is full. */
        boolean add(int a, int b, int c) {
            if (size >= most) {
                return false;
            }
            size++;
            for (int column = 0; column < width; column++) {
                set(size - 1, column, column == 0 ? a : column == 1 ? b : column == 2 ? c : 0);
            }
            return true;
        }

        void remove(int row) {
            if (row < 0 || row >= size) {
                return;
            }
            for (int r = row; r < size - 1; r++) {
                copyRow(this, r + 1, r);
            }
            size--;
        }

        void copyFrom(Table other) {
            size = Math.min(other.size, most);
            for (int row = 0; row < size; row++) {
                copyRow(other, row, row);
            }
        }

        private void copyRow(Table other, int from, int to) {
            for (int column = 0; column < width; column++) {
                set(to, column, other.get(from, column));
            }
        }
    }

    /** What a text tells, and the WORLDS that its laws leave. */
    private static final class Town {
        private final Table laws = new Table(MOST_LAWS, 2);
        private final Table persons = new Table(MOST_PERSONS, 2);
        private final Table stones = new Table(MOST_STONES, 3);
        private final Table bids = new Table(MOST_BIDS, 3);
        private final Table worlds = new Table(MOST_WORLDS, 2);
        private int facts;
        private int soAtFirst;
        /** An item other than f has come, so that no f may come any more. */
        private boolean factsSettled;

        void clear() {
            laws.clear();
            persons.clear();
            stones.clear();
            bids.clear();
            worlds.clear();
            facts = FACTS_UNTOLD;
            soAtFirst = 0;
            factsSettled = false;
        }

        boolean isFact(int f) {
            return f >= 0 && f < facts;
        }

        boolean isSaying(int saying) {
            return saying >= 0 && saying < 2 * facts;
        }

        boolean isSet(int set) {
            return set >= 0 && set <= allFacts();
        }

        int allFacts() {
            return (1 << facts) - 1;
        }

        boolean isWorld(int set) {
            for (int k = 0; k < laws.size(); k++) {
                if (isSo(laws.get(k, IF), set) && !isSo(laws.get(k, THEN), set)) {
                    return false;
                }
            }
            return isSet(set);
        }

        void findWorlds() {
            for (int set = 0; set <= allFacts(); set++) {
                if (isWorld(set)) {
                    worlds.add(set, sayingsIn(set), 0);
                }
            }
        }

        /** All SAYINGS that are so in a set, as bits. */
        int sayingsIn(int set) {
            int sayings = 0;
            for (int f = 0; f < facts; f++) {
                sayings |= 1 << trueSaying(f, set);
            }
            return sayings;
        }

        /** The FACTS of which the SAYING that they are so (not = 0), or are not (1), is among these, as bits. */
        int factsSaid(int sayings, int not) {
            int said = 0;
            for (int f = 0; f < facts; f++) {
                said |= (sayings >> 2 * f + not & 1) << f;
            }
            return said;
        }

        boolean isPossible(int read) {
            for (int w = 0; w < worlds.size(); w++) {
                if ((worlds.get(w, SAYINGS) & read) == read) {
                    return true;
                }
            }
            return false;
        }

        /** The SAYINGS that are KNOWN where these are READ, as bits; of marks that DISAGREE none. */
        int knownFrom(int read) {
            int inAll = -1;
            for (int w = 0; w < worlds.size(); w++) {
                int sayings = worlds.get(w, SAYINGS);
                if ((sayings & read) == read) {
                    inAll &= sayings;
                }
            }
            return inAll == -1 ? 0 : inAll;
        }

        /** Whether all of a set is KNOWN, if just the true SAYINGS of the told FACTS are READ. */
        boolean tells(int told, int set, int truth) {
            for (int w = 0; w < worlds.size(); w++) {
                int otherwise = worlds.get(w, FACTS) ^ truth;
                if ((otherwise & told) == 0 && (otherwise & set) != 0) {
                    return false;
                }
            }
            return true;
        }

        int hoursAt(int stone) {
            return stones.get(stone, KIND) == SKIN ? SKIN_HOURS : stones.get(stone, HARDNESS);
        }

        boolean wearsOff(int stone, int heard) {
            int kind = stones.get(stone, KIND);
            return kind == LIMESTONE && heard >= stones.get(stone, HARDNESS) || kind == SKIN && heard >= SKIN_BELLS;
        }

        int highestBidBut(int served) {
            int found = -1;
            for (int b = 0; b < bids.size(); b++) {
                boolean waits = (served >> b & 1) == 0;
                if (waits && (found < 0 || bids.get(b, OFFER) > bids.get(found, OFFER))) {
                    found = b;
                }
            }
            return found;
        }
    }

    /** THE TEXT, which can be read item by item into a town. */
    private static final class Text {
        private final Table letters = new Table(MOST_LETTERS, 1);
        /** Those of the item that is being read. */
        private final Table numbers = new Table(3, 1);
        private int place;

        /** FAULT, or NONE; the town is then all that the text tells. */
        int readInto(Town town) {
            place = 0;
            town.clear();
            for (int item = 0; item < MOST_LETTERS && place < letters.size(); item++) {
                int start = place;
                if (!readItem(town)) {
                    return start;
                }
            }
            return NONE;
        }

        private boolean readItem(Town town) {
            int letter = letters.get(place, 0);
            int wanted = numbersOf(letter);
            place++;
            numbers.clear();
            for (int k = 1; k <= wanted; k++) {
                int number = readNumber();
                int sign = letters.get(place, 0);
                if (number < 0 || sign != (k == wanted ? ';' : ',')) {
                    return false;
                }
                place++;
                numbers.add(number, 0, 0);
            }
            return wanted > 0 && tell(town, letter, numbers.get(0, 0), numbers.get(1, 0), numbers.get(2, 0));
        }

        private static int numbersOf(int letter) {
            switch (letter) {
                case 'f':
                case 'd':
                    return 1;
                case 'i':
                case 'p':
                    return 2;
                case 's':
                case 'b':
                    return 3;
                default:
                    return 0;
            }
        }

        /** One or two figures; -1 if there is none. */
        private int readNumber() {
            int number = -1;
            for (int figures = 0; figures < 2; figures++) {
                int figure = letters.get(place, 0) - '0';
                if (figure < 0 || figure > 9) {
                    return number;
                }
                number = Math.max(number, 0) * 10 + figure;
                place++;
            }
            return number;
        }

        private static boolean tell(Town town, int letter, int a, int b, int c) {
            if (letter == 'f') {
                return tellFacts(town, a);
            }
            town.factsSettled = true;
            switch (letter) {
                case 'd':
                    return tellFirst(town, a);
                case 'i':
                    return town.isSaying(a) && town.isSaying(b) && town.laws.add(a, b, c);
                case 'p':
                    return a <= MOST_HOURS && b <= MOST_LIES && town.persons.add(a, b, c);
                case 's':
                    return a >= 1 && a <= MOST_ROOM && b >= 1 && b <= MOST_HARDNESS && c <= MOST_KIND
                            && town.stones.add(a, b, c);
                default:
                    return town.persons.has(a) && b >= 1 && b <= MOST_ROOM && c <= MOST_OFFER
                            && town.bids.add(a, b, c);
            }
        }

        private static boolean tellFacts(Town town, int facts) {
            if (town.factsSettled || facts < 1 || facts > MOST_FACTS) {
                return false;
            }
            town.facts = facts;
            return true;
        }

        private static boolean tellFirst(Town town, int fact) {
            if (!town.isFact(fact)) {
                return false;
            }
            town.soAtFirst |= 1 << fact;
            return true;
        }
    }

    /** How things stand in a week: what is UNDONE and KEPT whole. */
    private static final class Week {
        private final Table marks = new Table(MOST_MARKS, 4);
        private final Table hoursLeft = new Table(MOST_PERSONS, 1);
        private int truth;
        private int weeks;

        void begin(Town town) {
            truth = town.soAtFirst;
            weeks = 0;
            marks.clear();
            restoreHours(town);
        }

        void copyFrom(Week other) {
            marks.copyFrom(other.marks);
            hoursLeft.copyFrom(other.hoursLeft);
            truth = other.truth;
            weeks = other.weeks;
        }

        private void restoreHours(Town town) {
            hoursLeft.clear();
            for (int i = 0; i < town.persons.size(); i++) {
                hoursLeft.add(town.persons.get(i, HOURS), 0, 0);
            }
        }

        void spend(int person, int hours) {
            hoursLeft.set(person, 0, hoursLeft.get(person, 0) - hours);
        }

        int freeRoom(Town town, int stone) {
            int room = town.stones.get(stone, ROOM);
            for (int m = 0; m < marks.size(); m++) {
                if (marks.get(m, STONE) == stone) {
                    room--;
                }
            }
            return room;
        }

        /** The BELL; from the last mark on, so that those that come down one have been looked at. */
        void ring(Town town) {
            restoreHours(town);
            weeks++;
            for (int m = marks.size() - 1; m >= 0; m--) {
                int heard = marks.get(m, HEARD) + 1;
                marks.set(m, HEARD, heard);
                if (town.wearsOff(marks.get(m, STONE), heard)) {
                    marks.remove(m);
                }
            }
        }

        /** A week of a YEAR, with its BELL; the twelfth mark fills the table, which then takes no more. */
        void live(Town town, int draw) {
            int worlds = town.worlds.size();
            int persons = town.persons.size();
            int facts = town.facts;
            if (worlds < 1 || persons < 1 || facts < 1) {
                return;
            }
            truth = town.worlds.get(draw % worlds, FACTS);
            int stone = lowestFreeStone(town);
            if (draw / 8 % 2 == 0 && stone >= 0) {
                marks.add(trueSaying(draw / 128 % facts, truth), stone, draw / 16 % persons);
            }
            ring(town);
        }

        private int lowestFreeStone(Town town) {
            for (int s = 0; s < town.stones.size(); s++) {
                if (freeRoom(town, s) > 0) {
                    return s;
                }
            }
            return -1;
        }

        /** HANDS of a SAYING, had one more person (or NOBODY) cut it at no ARCH. */
        int handsOf(Town town, int saying, int also) {
            int cutters = also == NOBODY ? 0 : 1 << also;
            int arch = 0;
            for (int m = 0; m < marks.size(); m++) {
                if (marks.get(m, SAYING) == saying) {
                    cutters |= 1 << marks.get(m, CUTTER);
                    if (town.stones.get(marks.get(m, STONE), KIND) == ARCH) {
                        arch = 1;
                    }
                }
            }
            return Integer.bitCount(cutters) + arch;
        }

        /** The SAYINGS that are READ by the RULE, as bits. */
        int readBy(Town town, int rule) {
            int read = 0;
            for (int saying = 0; saying < 2 * town.facts; saying++) {
                if (handsOf(town, saying, NOBODY) >= rule) {
                    read |= 1 << saying;
                }
            }
            return read;
        }

        /** The SAYINGS that are READ by RULE 1, as bits, were one mark (or NO_MARK) not there: any mark is a hand. */
        int carvedBut(int mark) {
            int all = (1 << marks.size()) - 1;
            return sayingsOf(mark == NO_MARK ? all : all & ~(1 << mark));
        }

        int sayingsOf(int setOfMarks) {
            int sayings = 0;
            for (int m = 0; m < marks.size(); m++) {
                if ((setOfMarks >> m & 1) == 1) {
                    sayings |= 1 << marks.get(m, SAYING);
                }
            }
            return sayings;
        }

        int marksSoIn(int set) {
            int so = 0;
            for (int m = 0; m < marks.size(); m++) {
                if (isSo(marks.get(m, SAYING), set)) {
                    so |= 1 << m;
                }
            }
            return so;
        }

        /** What a WORLD weighs for BELIEF. */
        long weightOf(Town town, int set) {
            long weight = 1;
            for (int m = 0; m < marks.size(); m++) {
                int lies = town.persons.get(marks.get(m, CUTTER), LIES);
                weight *= isSo(marks.get(m, SAYING), set) ? 10 - lies : lies;
            }
            return weight;
        }
    }

    /** Weeks laid by, the latest on top; made once and used again, the oldest going when it is full. */
    private static final class Shelf {
        private final Week[] weeks;
        private int bottom;
        private int size;

        Shelf(int most) {
            weeks = new Week[most > 0 ? most : 0];
            for (int i = 0; i < weeks.length; i++) {
                weeks[i] = new Week();
            }
        }

        int size() {
            return size;
        }

        boolean isFull() {
            return size >= weeks.length;
        }

        void clear() {
            size = 0;
        }

        void push(Week week) {
            if (isFull()) {
                bottom = bottom + 1 < weeks.length ? bottom + 1 : 0;
                size--;
            }
            size++;
            Week top = top();
            if (top != null) {
                top.copyFrom(week);
            }
        }

        /** The latest into the given week. */
        void pop(Week week) {
            Week top = top();
            if (top != null) {
                week.copyFrom(top);
                size--;
            }
        }

        private Week top() {
            if (size < 1 || weeks.length < 1) {
                return null;
            }
            int place = (bottom + size - 1) % weeks.length;
            return place >= 0 && place < weeks.length ? weeks[place] : null;
        }
    }
}
