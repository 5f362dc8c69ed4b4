import java.util.Arrays;

/** The last seat of a theatre, sold again and again till the curtain; see the document for every promise. */
public final class SoldSeat {
    public static final int BAD = -1, NOT = -2, FULL = -3, NONE = -4, NULL = -11, CAST = -12, INDEX = -13, SIZE = -14;

    private static final int MOST_BUYERS = 6;
    private static final int MOST_PAID = 99;
    private static final int KINDS = 5;
    private static final int TRICKS = 5;
    private static final int ALL_TRICKS = 31;
    private static final int MOST_MINUTES = 40;
    private static final int LAST_MINUTE = 9999;
    private static final int MOST_AHEAD = 99;
    private static final int MOST_ROUND = 300;
    private static final int MOST_CHANCES = 8;
    private static final int TENTHS = 10;
    private static final int MOST_TICKETS = 8;
    private static final int MOST_TICKET = 99;
    private static final int SHEETS = 4;
    private static final int LANES = 4;
    private static final int MOST_ITEMS = 24;
    private static final int FINE = 0;

    private final House now = new House();
    // What is foretold or read is tried out here, so that no call has to make a house of its own.
    private final House trial = new House();
    private final History history = new History();
    private final House keptHouse = new House();
    private final History keptHistory = new History();
    private boolean kept = false;
    private final Tape tape = new Tape();
    private final Sheet[] sheets = {new Sheet(), new Sheet(), new Sheet(), new Sheet()};
    private final Deal deal = new Deal();
    private final long[] marks = new long[MOST_ROUND + 1];

    public SoldSeat() {
    }

    // ---- 1 buyers, turns

    public int buyer(int kind, int paid, int tricks) {
        if (outside(kind, 0, KINDS - 1) || outside(paid, 0, MOST_PAID) || outside(tricks, 0, ALL_TRICKS)) return BAD;
        if (now.people >= MOST_BUYERS) return FULL;
        history.forget();
        return now.add(kind, paid, tricks);
    }

    public int of(int buyer, int what) {
        if (noBuyer(buyer)) return BAD;
        switch (what) {
            case 0: return now.kinds[buyer];
            case 1: return now.prices[buyer];
            case 2: return now.known[buyer];
            case 3: return now.sights[buyer];
            case 4: return now.isHere(buyer) ? 1 : 0;
            case 5: return now.placeOf(buyer);
            case 6: return now.maySit(buyer) ? 1 : 0;
            default: return BAD;
        }
    }

    public int turn(int place) {
        if (noBuyer(place)) return BAD;
        return now.places[place];
    }

    public int type(int letter) {
        if (outside(letter, 32, 126)) return BAD;
        if (tape.isFull()) return FULL;
        return tape.put((char) letter);
    }

    public int theatre() {
        trial.clear();
        int read = tape.readInto(trial);
        tape.clear();
        if (read < 0) return read;
        trial.draw = now.draw;
        now.takeFrom(trial);
        history.forget();
        return read;
    }

    public int count(int what) {
        switch (what) {
            case 0: return now.people;
            case 1: return now.minute;
            case 2: return now.sitter;
            case 3: return now.sat;
            case 4: return now.whoseTurn();
            case 5: return now.here;
            case 6: return history.size;
            case 7: return now.knownByAll();
            default: return BAD;
        }
    }

    // ---- what is done

    public int minutes(int n) {
        return goOn(n, false);
    }

    public int learnt(int buyer, int trick) {
        if (noBuyer(buyer) || outside(trick, 0, TRICKS - 1)) return BAD;
        if (now.knows(buyer, trick)) return NOT;
        history.remember(now);
        now.teach(buyer, trick);
        return now.known[buyer];
    }

    public int sent(int buyer) {
        if (noBuyer(buyer)) return BAD;
        if (!now.isHere(buyer)) return NOT;
        history.remember(now);
        now.sendHome(buyer);
        return now.here;
    }

    public int called() {
        if (now.sitter < 0) return NOT;
        history.remember(now);
        int who = now.sitter;
        now.standUp();
        return who;
    }

    public int changed(int place, int other) {
        if (noBuyer(place) || noBuyer(other) || place == other) return BAD;
        history.remember(now);
        int who = now.places[other];
        now.places[other] = now.places[place];
        now.places[place] = who;
        return who;
    }

    public int drift(int n) {
        return goOn(n, true);
    }

    public int undo() {
        if (history.size == 0) return NONE;
        history.takeBack(now);
        return history.size;
    }

    public int seed(int v) {
        if (v < 0) return BAD;
        int was = now.draw;
        now.draw = v;
        return was;
    }

    // ---- 2 foretold

    public int ahead(int n, int what) {
        if (outside(n, 0, MOST_AHEAD) || outside(what, 0, 1)) return BAD;
        startTrial();
        trial.passMany(n);
        return what == 0 ? trial.sitter : trial.knownByAll();
    }

    public int seen(int buyer, int n) {
        if (noBuyer(buyer) || outside(n, 0, MOST_AHEAD)) return BAD;
        startTrial();
        trial.passMany(n);
        return trial.sights[buyer];
    }

    public int first(int buyer) {
        if (noBuyer(buyer)) return BAD;
        startTrial();
        for (int t = 0; t <= MOST_AHEAD; t++) {
            if (trial.sitter == buyer) return t;
            trial.pass(false);
        }
        return NONE;
    }

    public int round(int what) {
        if (outside(what, 0, 1)) return BAD;
        if (now.people == 0) return NONE;
        startTrial();
        marks[0] = trial.mark();
        for (int t = 1; t <= MOST_ROUND; t++) {
            trial.pass(false);
            marks[t] = trial.mark();
            int earlier = findMark(marks[t], t);
            if (earlier >= 0) return what == 0 ? t : t - earlier;
        }
        return NONE;
    }

    public int turns(int buyer, int n, int k) {
        if (noBuyer(buyer) || outside(n, 1, MOST_MINUTES) || k < -1) return BAD;
        int most = findMostSeen(buyer, n);
        return k == -1 ? most : deal.keptAt(k);
    }

    public int fair(int n, int k) {
        if (outside(n, 1, MOST_MINUTES) || k < -1) return BAD;
        if (now.people == 0) return NONE;
        int apart = findLeastApart(n);
        return k == -1 ? apart : deal.keptAt(k);
    }

    public int learn(int buyer, int n, int what) {
        if (noBuyer(buyer) || outside(n, 1, MOST_MINUTES) || outside(what, 0, 1)) return BAD;
        int best = NONE;
        int most = NONE;
        for (int trick = 0; trick < TRICKS; trick++) {
            if (now.knows(buyer, trick)) continue;
            startTrial();
            trial.forgetSights();
            trial.teach(buyer, trick);
            trial.passMany(n);
            if (trial.sights[buyer] > most) {
                most = trial.sights[buyer];
                best = trick;
            }
        }
        return what == 0 ? best : most;
    }

    public int pay(int buyer, int n) {
        if (noBuyer(buyer) || outside(n, 0, MOST_MINUTES)) return BAD;
        for (int price = 0; price <= MOST_PAID; price++) {
            startTrial();
            trial.prices[buyer] = price;
            trial.passMany(n);
            if (trial.sitter == buyer) return price;
        }
        return NONE;
    }

    public int send(int buyer, int n, int what) {
        if (noBuyer(buyer) || outside(n, 0, MOST_MINUTES) || outside(what, 0, 1)) return BAD;
        int others = now.here & ~(1 << buyer);
        int best = NONE;
        int fewest = MOST_BUYERS;
        for (int set = 0; set <= others; set++) {
            int size = Integer.bitCount(set);
            if ((set & ~others) == 0 && size < fewest && sitsWithout(set, buyer, n)) {
                fewest = size;
                best = set;
            }
        }
        if (best < 0) return NONE;
        return what == 0 ? fewest : best;
    }

    public int ousts(int buyer) {
        if (noBuyer(buyer)) return BAD;
        if (!now.isHere(buyer)) return NOT;
        return now.oustedBy(buyer);
    }

    public int safe() {
        int ousted = 0;
        for (int b = 0; b < now.people; b++) {
            if (now.isHere(b)) ousted |= now.oustedBy(b);
        }
        return now.here & ~ousted;
    }

    public int miss(int buyer, int n, int c, int what) {
        if (noBuyer(buyer) || outside(n, 0, MOST_CHANCES)) return BAD;
        if (outside(c, 0, TENTHS) || outside(what, 0, 1)) return BAD;
        long above = 0;
        for (int missed = 0; missed < 1 << n; missed++) {
            int misses = Integer.bitCount(missed);
            long weight = power(c, misses) * power(TENTHS - c, n - misses);
            if (weight > 0 && sitsMissing(missed, buyer, n)) above += weight;
        }
        return (int) partOfFraction(above, power(TENTHS, n), what);
    }

    public int image() {
        keptHouse.takeFrom(now);
        keptHistory.takeFrom(history);
        kept = true;
        return 1;
    }

    public int restore() {
        if (!kept) return NONE;
        now.takeFrom(keptHouse);
        history.takeFrom(keptHistory);
        return 1;
    }

    // ---- 3 sheets 0 .. 3: nothing (at first), or a row of a LANE: 0 bytes, 1 shorts, 2 ints, 3 longs, of 0 to 24 items

    public int stubs(int buyer, int sheet, int lane, int i, int n, int what) {
        if (noBuyer(buyer) || noRow(sheet, lane) || outside(n, 1, MOST_CHANCES) || outside(what, 0, 2)) return BAD;
        int fault = sheets[sheet].faultOf(lane, i, n);
        if (fault != FINE) return fault;
        if (what == 0) return kindsByStubs(buyer, sheets[sheet], i, n);
        int ways = 0;
        int least = NONE;
        for (int set = ALL_TRICKS; set >= 0; set--) {
            startTrial();
            trial.known[buyer] = set;
            if (trialFollows(sheets[sheet], i, n)) {
                ways++;
                least = set;
            }
        }
        return what == 1 ? ways : least;
    }

    public long gaps(int sheet, int lane, int i, int n, int m, int what) {
        if (noRow(sheet, lane) || outside(n, 1, MOST_TICKETS)) return BAD;
        if (outside(m, 0, MOST_TICKET) || outside(what, 0, 1) || (m == 0 && what == 1)) return BAD;
        Sheet row = sheets[sheet];
        int fault = row.faultOf(lane, i, n);
        if (fault != FINE) return fault;
        int greatest = row.greatestTicket(i, n, m == 0 ? MOST_TICKET : m);
        if (greatest < 0) return NOT;
        if (m == 0) return greatest;
        return partOfFraction(choices(greatest, n), choices(m, n), what);
    }

    public int film(int n, int sheet, int lane, int i) {
        if (outside(n, 1, MOST_ITEMS) || noRow(sheet, lane)) return BAD;
        int fault = sheets[sheet].faultOf(lane, i, n);
        if (fault != FINE) return fault;
        startTrial();
        for (int t = 0; t < n; t++) {
            trial.pass(false);
            sheets[sheet].put(i + t, trial.sitter);
        }
        return n;
    }

    public int sheet(int sheet, int lane, int n) {
        if (noRow(sheet, lane) || n > MOST_ITEMS) return BAD;
        if (n < 0) return SIZE;
        sheets[sheet].begin(lane, n);
        return n;
    }

    public int drop(int sheet) {
        if (noSheet(sheet)) return BAD;
        if (sheets[sheet].isNothing()) return NULL;
        int had = sheets[sheet].size;
        sheets[sheet].clear();
        return had;
    }

    public int item(int sheet, int lane, int i, long v) {
        if (noRow(sheet, lane)) return BAD;
        int fault = sheets[sheet].faultOf(lane, i, 1);
        if (fault != FINE) return fault;
        sheets[sheet].put(i, v);
        return 1;
    }

    public int copy(int from, int i, int to, int j, int n) {
        if (noSheet(from) || noSheet(to)) return BAD;
        Sheet source = sheets[from];
        Sheet target = sheets[to];
        if (source.isNothing() || target.isNothing()) return NULL;
        if (source.lane != target.lane) return CAST;
        if (!source.holds(i, n) || !target.holds(j, n)) return INDEX;
        System.arraycopy(source.items, i, target.items, j, n);
        return n;
    }

    // ---- what the calls share

    private static boolean outside(int v, int low, int high) {
        return v < low || v > high;
    }

    // There are as many places as buyers, so this looks at places, too.
    private boolean noBuyer(int buyer) {
        return outside(buyer, 0, now.people - 1);
    }

    private static boolean noSheet(int sheet) {
        return outside(sheet, 0, SHEETS - 1);
    }

    private static boolean noRow(int sheet, int lane) {
        return noSheet(sheet) || outside(lane, 0, LANES - 1);
    }

    private int goOn(int n, boolean byRumours) {
        if (outside(n, 1, MOST_MINUTES)) return BAD;
        if (now.minute + n > LAST_MINUTE) return FULL;
        for (int i = 0; i < n; i++) {
            history.remember(now);
            if (byRumours) now.hearRumour();
            now.pass(false);
        }
        return now.sitter;
    }

    private void startTrial() {
        trial.takeFrom(now);
    }

    /** The minute before t that has this mark, or NONE. */
    private int findMark(long mark, int t) {
        for (int i = 0; i < t && i < marks.length; i++) {
            if (marks[i] == mark) return i;
        }
        return NONE;
    }

    /** The deal by which the buyer sees most is kept in deal. */
    private int findMostSeen(int buyer, int n) {
        int most = -1;
        deal.begin(now.people);
        for (int way = 0; way < Deal.MOST_WAYS; way++) {
            int sees = seesByDeal(buyer, n, most);
            if (sees > most) {
                most = sees;
                deal.keep();
            }
            if (most == n || !deal.advance()) break;
        }
        return most;
    }

    /** How much the buyer sees; toBeat, as soon as it can't become more than that. */
    private int seesByDeal(int buyer, int n, int toBeat) {
        startTrialByDeal();
        for (int t = 0; t < n; t++) {
            if (trial.sights[buyer] + n - t <= toBeat) return toBeat;
            trial.pass(false);
        }
        return trial.sights[buyer];
    }

    /** The deal by which the most and the least seen are least apart is kept in deal. */
    private int findLeastApart(int n) {
        int least = n + 1;
        deal.begin(now.people);
        for (int way = 0; way < Deal.MOST_WAYS; way++) {
            int apart = apartByDeal(n, least);
            if (apart < least) {
                least = apart;
                deal.keep();
            }
            if (least == 0 || !deal.advance()) break;
        }
        return least;
    }

    /** How far the most and the least seen are apart; toBeat, as soon as it can't become less than that. */
    private int apartByDeal(int n, int toBeat) {
        startTrialByDeal();
        // Of n minutes one of all sees at most an even share, so the least is never above it.
        int share = trial.people > 0 ? n / trial.people : 0;
        for (int t = 0; t < n; t++) {
            trial.pass(false);
            if (trial.sitter >= 0 && trial.sights[trial.sitter] - share >= toBeat) return toBeat;
        }
        return trial.sightsApart();
    }

    private void startTrialByDeal() {
        startTrial();
        trial.forgetSights();
        System.arraycopy(deal.order, 0, trial.places, 0, MOST_BUYERS);
    }

    private boolean sitsWithout(int set, int buyer, int n) {
        startTrial();
        for (int b = 0; b < trial.people; b++) {
            if ((set >> b & 1) == 1) trial.sendHome(b);
        }
        trial.passMany(n);
        return trial.sitter == buyer;
    }

    private boolean sitsMissing(int missed, int buyer, int n) {
        startTrial();
        for (int t = 0; t < n; t++) {
            trial.pass((missed >> t & 1) == 1);
        }
        return trial.sitter == buyer;
    }

    private int kindsByStubs(int buyer, Sheet row, int i, int n) {
        int fitting = 0;
        for (int kind = 0; kind < KINDS; kind++) {
            startTrial();
            trial.kinds[buyer] = kind;
            if (trialFollows(row, i, n)) fitting |= 1 << kind;
        }
        return fitting;
    }

    private boolean trialFollows(Sheet row, int i, int n) {
        for (int t = 0; t < n; t++) {
            trial.pass(false);
            if (row.items[i + t] != trial.sitter) return false;
        }
        return true;
    }

    private static long power(int base, int exponent) {
        long result = 1;
        for (int i = 0; i < exponent; i++) {
            result *= base;
        }
        return result;
    }

    /** How many sets of size n there are among m. */
    private static long choices(int m, int n) {
        long result = 1;
        for (int i = 0; i < n; i++) {
            result = result * (m - i) / (i + 1);
        }
        return result;
    }

    /** Of a fraction in lowest terms what is above (what 0) or below (1). */
    private static long partOfFraction(long above, long below, int what) {
        long divisor = commonDivisor(above, below);
        return (what == 0 ? above : below) / divisor;
    }

    /** The greatest common divisor, at least 1. */
    private static long commonDivisor(long a, long b) {
        // Of numbers below 2 to the 40th Euclid's way ends within 60 steps.
        for (int step = 0; step < 100 && b != 0; step++) {
            long rest = a % b;
            a = b;
            b = rest;
        }
        return a > 0 ? a : 1;
    }

    /** All that an image keeps but for what may be undone. */
    private static final class House {
        private static final int PLAIN = 0, FRIEND = 1, MEEK = 2, DUCHESS = 3;
        private static final int FRIENDLY_MINUTES = 5;
        private static final int LONG_SAT = 4;
        private static final int LOWEST_31_BITS = 0x7fffffff;

        int people = 0;
        final int[] kinds = new int[MOST_BUYERS];
        final int[] prices = new int[MOST_BUYERS];
        final int[] known = new int[MOST_BUYERS];
        final int[] sights = new int[MOST_BUYERS];
        final int[] places = new int[MOST_BUYERS];
        int here = 0;
        int sitter = NONE;
        int sat = 0;
        int minute = 0;
        int draw = 1;

        void takeFrom(House other) {
            people = other.people;
            System.arraycopy(other.kinds, 0, kinds, 0, MOST_BUYERS);
            System.arraycopy(other.prices, 0, prices, 0, MOST_BUYERS);
            System.arraycopy(other.known, 0, known, 0, MOST_BUYERS);
            System.arraycopy(other.sights, 0, sights, 0, MOST_BUYERS);
            System.arraycopy(other.places, 0, places, 0, MOST_BUYERS);
            here = other.here;
            sitter = other.sitter;
            sat = other.sat;
            minute = other.minute;
            draw = other.draw;
        }

        /** Nobody is left; the draw stays. */
        void clear() {
            people = 0;
            here = 0;
            minute = 0;
            standUp();
        }

        void forgetSights() {
            Arrays.fill(sights, 0);
        }

        /** The new buyer's number; the caller has looked whether there is room. */
        int add(int kind, int price, int tricks) {
            int number = people;
            if (number >= MOST_BUYERS) return FULL;
            kinds[number] = kind;
            prices[number] = price;
            known[number] = tricks;
            sights[number] = 0;
            places[number] = number;
            here |= 1 << number;
            people++;
            return number;
        }

        boolean isHere(int buyer) {
            return (here >> buyer & 1) == 1;
        }

        boolean knows(int buyer, int trick) {
            return (known[buyer] >> trick & 1) == 1;
        }

        void teach(int buyer, int trick) {
            known[buyer] |= 1 << trick;
        }

        int knownByAll() {
            int sum = 0;
            for (int b = 0; b < people; b++) {
                sum += Integer.bitCount(known[b]);
            }
            return sum;
        }

        int placeOf(int buyer) {
            for (int place = 0; place < people; place++) {
                if (places[place] == buyer) return place;
            }
            return NONE;
        }

        int whoseTurn() {
            return people > 0 ? places[minute % people] : NONE;
        }

        /** The tricks of one that the other does not counter. */
        int openTricks(int buyer, int other) {
            int countering = known[other];
            int countered = countering >> 1 | countering << TRICKS - 1;
            return known[buyer] & ~countered;
        }

        /** Whether one would oust the other, if that one had sat so long. */
        boolean wouldOust(int buyer, int other, int satSoFar) {
            boolean plain = openTricks(buyer, other) != 0;
            boolean friend = plain || minute % FRIENDLY_MINUTES == 0;
            boolean meek = plain && satSoFar >= LONG_SAT;
            switch (kinds[buyer]) {
                case PLAIN: return plain;
                case FRIEND: return friend;
                case MEEK: return meek;
                case DUCHESS: return friend || prices[other] < prices[buyer];
                default: return meek || known[other] == 0;
            }
        }

        boolean maySit(int buyer) {
            if (!isHere(buyer) || buyer == sitter) return false;
            return sitter < 0 || wouldOust(buyer, sitter, sat);
        }

        /** Those here whom one would oust now, were they in the seat. */
        int oustedBy(int buyer) {
            int ousted = 0;
            for (int b = 0; b < people; b++) {
                if (b != buyer && isHere(b) && wouldOust(buyer, b, sat)) ousted |= 1 << b;
            }
            return ousted;
        }

        void sitDown(int buyer) {
            if (sitter >= 0) {
                int open = openTricks(buyer, sitter);
                int least = open & -open;
                known[buyer] &= ~least;
            }
            sitter = buyer;
            sat = 0;
        }

        void standUp() {
            sitter = NONE;
            sat = 0;
        }

        void sendHome(int buyer) {
            here &= ~(1 << buyer);
            if (sitter == buyer) standUp();
        }

        void pass(boolean missed) {
            int next = whoseTurn();
            if (!missed && next >= 0 && maySit(next)) sitDown(next);
            if (sitter >= 0) {
                sights[sitter]++;
                sat++;
            }
            minute++;
        }

        void passMany(int n) {
            for (int t = 0; t < n; t++) {
                pass(false);
            }
        }

        void hearRumour() {
            draw = draw * 1103515245 + 12345 & LOWEST_31_BITS;
            if (people == 0) return;
            int buyer = draw / 65536 % people;
            if (isHere(buyer)) teach(buyer, draw / 128 % TRICKS);
        }

        /** Like numbers tell that all that decides the minutes to come is alike. */
        long mark() {
            long mark = people > 0 ? minute % people : 0;
            mark = mark * FRIENDLY_MINUTES + minute % FRIENDLY_MINUTES;
            mark = mark * (LONG_SAT + 1) + Math.min(sat, LONG_SAT);
            mark = mark * (MOST_BUYERS + 1) + (sitter >= 0 ? sitter : MOST_BUYERS);
            for (int b = 0; b < people; b++) {
                mark = mark * (ALL_TRICKS + 1) + known[b];
            }
            return mark;
        }

        int sightsApart() {
            int most = sights[0];
            int least = sights[0];
            for (int b = 1; b < people; b++) {
                most = Math.max(most, sights[b]);
                least = Math.min(least, sights[b]);
            }
            return most - least;
        }
    }

    /** The latest houses ahead of what was done, the oldest lost first. */
    private static final class History {
        private static final int MOST = 8;

        final House[] past = {new House(), new House(), new House(), new House(),
            new House(), new House(), new House(), new House()};
        int next = 0;
        int size = 0;

        void remember(House house) {
            past[next].takeFrom(house);
            next = (next + 1) % MOST;
            size = Math.min(size + 1, MOST);
        }

        void takeBack(House house) {
            if (size == 0) return;
            next = (next + MOST - 1) % MOST;
            size--;
            house.takeFrom(past[next]);
        }

        void forget() {
            size = 0;
        }

        void takeFrom(History other) {
            for (int i = 0; i < MOST; i++) {
                past[i].takeFrom(other.past[i]);
            }
            next = other.next;
            size = other.size;
        }
    }

    /** The ways in which places can be dealt, rising, and one of them that is kept. */
    private static final class Deal {
        static final int MOST_WAYS = 720;

        final int[] order = new int[MOST_BUYERS];
        final int[] best = new int[MOST_BUYERS];
        int size = 0;

        void begin(int people) {
            size = Math.min(people, MOST_BUYERS);
            for (int place = 0; place < MOST_BUYERS; place++) {
                order[place] = place;
            }
        }

        void keep() {
            System.arraycopy(order, 0, best, 0, MOST_BUYERS);
        }

        int keptAt(int place) {
            return place >= 0 && place < size ? best[place] : NONE;
        }

        /** The next way; false, if this was the last. */
        boolean advance() {
            int rise = size - 2;
            while (rise >= 0 && order[rise] > order[rise + 1]) {
                rise--;
            }
            if (rise < 0) return false;
            int above = size - 1;
            while (above > rise && order[above] < order[rise]) {
                above--;
            }
            swap(rise, above);
            for (int low = rise + 1, high = size - 1; low < high; low++, high--) {
                swap(low, high);
            }
            return true;
        }

        private void swap(int place, int other) {
            int who = order[place];
            order[place] = order[other];
            order[other] = who;
        }
    }

    /** The letters typed, and how they are read as a theatre. */
    private static final class Tape {
        private static final int MOST = 70;
        private static final int FIRST_FAULT = -20;
        private static final String KIND_LETTERS = "pfmdg";
        private static final char END = 0;

        final char[] letters = new char[MOST];
        int size = 0;
        int at = 0;

        boolean isFull() {
            return size >= MOST;
        }

        /** How many letters there are then; the caller has looked whether there is room. */
        int put(char letter) {
            if (isFull()) return FULL;
            letters[size] = letter;
            size++;
            return size;
        }

        void clear() {
            size = 0;
        }

        /** How many buyers the house, empty before, has got, or the fault. */
        int readInto(House house) {
            at = 0;
            for (int b = 0; b < MOST_BUYERS; b++) {
                if (!readBuyer(house)) break;
                skipBlanks();
                if (at >= size) return house.people;
                if (letterHere() != ',' || house.people >= MOST_BUYERS) break;
                at++;
            }
            return FIRST_FAULT - at;
        }

        /** Whether a buyer was read; if not, at is the place of the fault. */
        private boolean readBuyer(House house) {
            skipBlanks();
            int kind = KIND_LETTERS.indexOf(letterHere());
            if (kind < 0) return false;
            at++;
            int price = readNumber();
            if (price < 0) return false;
            skipBlanks();
            int tricks = 0;
            if (letterHere() == ':') {
                at++;
                tricks = readTricks();
                if (tricks == 0) return false;
            }
            house.add(kind, price, tricks);
            return true;
        }

        /** A number of one or two digits, or NONE. */
        private int readNumber() {
            skipBlanks();
            int tens = digitHere();
            if (tens < 0) return NONE;
            at++;
            int ones = digitHere();
            if (ones < 0) return tens;
            at++;
            return tens * 10 + ones;
        }

        /** The rising digits as a set. */
        private int readTricks() {
            int tricks = 0;
            int latest = -1;
            for (int read = 0; read < TRICKS; read++) {
                skipBlanks();
                int trick = digitHere();
                if (trick <= latest || trick >= TRICKS) break;
                tricks |= 1 << trick;
                latest = trick;
                at++;
            }
            return tricks;
        }

        private void skipBlanks() {
            while (at < size && letters[at] == ' ') {
                at++;
            }
        }

        private char letterHere() {
            return at >= 0 && at < size ? letters[at] : END;
        }

        private int digitHere() {
            char letter = letterHere();
            return letter >= '0' && letter <= '9' ? letter - '0' : NONE;
        }
    }

    /** A row of a lane, or nothing. */
    private static final class Sheet {
        private static final int NO_LANE = -1, BYTES = 0, SHORTS = 1, INTS = 2;

        int lane = NO_LANE;
        int size = 0;
        // Each item is kept as the long that its lane's number widens to.
        final long[] items = new long[MOST_ITEMS];

        boolean isNothing() {
            return lane == NO_LANE;
        }

        void begin(int newLane, int n) {
            lane = newLane;
            size = n;
            Arrays.fill(items, 0);
        }

        void clear() {
            lane = NO_LANE;
            size = 0;
        }

        /** Whether items i to i + n - 1 are all there. */
        boolean holds(int i, int n) {
            return i >= 0 && n >= 0 && n <= size && i <= size - n;
        }

        int faultOf(int takenAs, int i, int n) {
            if (isNothing()) return NULL;
            if (lane != takenAs) return CAST;
            return holds(i, n) ? FINE : INDEX;
        }

        void put(int i, long v) {
            if (!holds(i, 1)) return;
            switch (lane) {
                case BYTES: items[i] = (byte) v; break;
                case SHORTS: items[i] = (short) v; break;
                case INTS: items[i] = (int) v; break;
                default: items[i] = v; break;
            }
        }

        /** The greatest of n tickets, or NOT, if they are not tickets 1 to last, none told twice. */
        int greatestTicket(int i, int n, int last) {
            int greatest = NOT;
            for (int k = i; k < i + n; k++) {
                if (items[k] < 1 || items[k] > last || isToldBefore(i, k)) return NOT;
                greatest = Math.max(greatest, (int) items[k]);
            }
            return greatest;
        }

        private boolean isToldBefore(int from, int k) {
            for (int j = from; j < k; j++) {
                if (items[j] == items[k]) return true;
            }
            return false;
        }
    }
}
