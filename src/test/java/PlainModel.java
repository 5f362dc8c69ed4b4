import java.math.BigInteger;
import java.util.ArrayDeque;
import java.util.ArrayList;
import java.util.Arrays;
import java.util.Deque;
import java.util.HashMap;
import java.util.List;
import java.util.Map;
import java.util.regex.Matcher;
import java.util.regex.Pattern;

/**
 * The document written out a second time, slowly and in other ways than the class (kinds as classes, theatres by a
 * pattern, chances as big fractions), so that random runs of both can be compared.
 */
final class PlainModel {
    static final int BAD = -1, NOT = -2, FULL = -3, NONE = -4, NULL = -11, CAST = -12, INDEX = -13, SIZE = -14;

    /** How one of a kind ousts. */
    static class Plain {
        boolean ousts(Person self, Person sitter, int sat, int minute) {
            for (int trick = 0; trick < 5; trick++) {
                if (self.knows[trick] && !sitter.counters(trick)) return true;
            }
            return false;
        }
    }

    static class Friend extends Plain {
        @Override boolean ousts(Person self, Person sitter, int sat, int minute) {
            return super.ousts(self, sitter, sat, minute) || minute % 5 == 0;
        }
    }

    static class Meek extends Plain {
        @Override boolean ousts(Person self, Person sitter, int sat, int minute) {
            return super.ousts(self, sitter, sat, minute) && sat >= 4;
        }
    }

    static class Duchess extends Friend {
        @Override boolean ousts(Person self, Person sitter, int sat, int minute) {
            return super.ousts(self, sitter, sat, minute) || sitter.paid < self.paid;
        }
    }

    static class Ghost extends Meek {
        @Override boolean ousts(Person self, Person sitter, int sat, int minute) {
            return super.ousts(self, sitter, sat, minute) || sitter.set() == 0;
        }
    }

    static final Plain[] KINDS = {new Plain(), new Friend(), new Meek(), new Duchess(), new Ghost()};

    static final class Person {
        int kind;
        int paid;
        boolean[] knows = new boolean[5];
        int seen;
        boolean here = true;

        Person(int kind, int paid, int set) {
            this.kind = kind;
            this.paid = paid;
            know(set);
        }

        void know(int set) {
            for (int trick = 0; trick < 5; trick++) knows[trick] = (set & (1 << trick)) != 0;
        }

        boolean counters(int trick) {
            return trick == 4 ? knows[0] : knows[trick + 1];
        }

        int set() {
            int set = 0;
            for (int trick = 0; trick < 5; trick++) if (knows[trick]) set += 1 << trick;
            return set;
        }

        Person twin() {
            Person twin = new Person(kind, paid, set());
            twin.seen = seen;
            twin.here = here;
            return twin;
        }
    }

    static final class World {
        List<Person> people = new ArrayList<>();
        List<Integer> order = new ArrayList<>();
        int sitter = NONE;
        int sat = 0;
        int minute = 0;
        long draw = 1;

        World twin() {
            World twin = new World();
            for (Person person : people) twin.people.add(person.twin());
            twin.order.addAll(order);
            twin.sitter = sitter;
            twin.sat = sat;
            twin.minute = minute;
            twin.draw = draw;
            return twin;
        }

        int next() {
            return people.isEmpty() ? NONE : order.get(minute % people.size());
        }

        boolean wouldOust(int who, int other) {
            Person self = people.get(who);
            return KINDS[self.kind].ousts(self, people.get(other), sat, minute);
        }

        boolean maySit(int who) {
            if (!people.get(who).here || who == sitter) return false;
            return sitter == NONE || wouldOust(who, sitter);
        }

        World minute(boolean missed) {
            int who = next();
            if (!missed && who != NONE && maySit(who)) {
                if (sitter != NONE) spend(people.get(who), people.get(sitter));
                sitter = who;
                sat = 0;
            }
            if (sitter != NONE) {
                people.get(sitter).seen++;
                sat++;
            }
            minute++;
            return this;
        }

        static void spend(Person who, Person sitter) {
            for (int trick = 0; trick < 5; trick++) {
                if (who.knows[trick] && !sitter.counters(trick)) {
                    who.knows[trick] = false;
                    return;
                }
            }
        }

        World after(int n) {
            World later = twin();
            for (int i = 0; i < n; i++) later.minute(false);
            return later;
        }

        void send(int who) {
            people.get(who).here = false;
            if (sitter == who) rise();
        }

        void rise() {
            sitter = NONE;
            sat = 0;
        }

        int tricks() {
            int sum = 0;
            for (Person person : people) sum += Integer.bitCount(person.set());
            return sum;
        }

        int here() {
            int set = 0;
            for (int i = 0; i < people.size(); i++) if (people.get(i).here) set += 1 << i;
            return set;
        }

        String mark() {
            StringBuilder mark = new StringBuilder();
            mark.append(sitter).append('/').append(Math.min(4, sat)).append('/').append(minute % 5);
            mark.append('/').append(minute % people.size());
            for (Person person : people) mark.append('/').append(person.set());
            return mark.toString();
        }
    }

    World world = new World();
    Deque<World> past = new ArrayDeque<>();
    World imageWorld;
    Deque<World> imagePast;
    StringBuilder tape = new StringBuilder();
    Object[] sheets = new Object[4];

    private static boolean in(long v, long low, long high) {
        return low <= v && v <= high;
    }

    private boolean is(int who) {
        return in(who, 0, world.people.size() - 1);
    }

    private void keep() {
        past.addLast(world.twin());
        if (past.size() > 8) past.removeFirst();
    }

    int buyer(int kind, int paid, int tricks) {
        if (!in(kind, 0, 4) || !in(paid, 0, 99) || !in(tricks, 0, 31)) return BAD;
        if (world.people.size() == 6) return FULL;
        past.clear();
        world.order.add(world.people.size());
        world.people.add(new Person(kind, paid, tricks));
        return world.people.size() - 1;
    }

    int of(int who, int what) {
        if (!is(who)) return BAD;
        Person person = world.people.get(who);
        return switch (what) {
            case 0 -> person.kind;
            case 1 -> person.paid;
            case 2 -> person.set();
            case 3 -> person.seen;
            case 4 -> person.here ? 1 : 0;
            case 5 -> world.order.indexOf(who);
            case 6 -> world.maySit(who) ? 1 : 0;
            default -> BAD;
        };
    }

    int turn(int place) {
        return is(place) ? world.order.get(place) : BAD;
    }

    int type(int letter) {
        if (!in(letter, 32, 126)) return BAD;
        if (tape.length() == 70) return FULL;
        tape.append((char) letter);
        return tape.length();
    }

    private static final String RISING = " *(?:0(?: *1)?(?: *2)?(?: *3)?(?: *4)?|1(?: *2)?(?: *3)?(?: *4)?"
        + "|2(?: *3)?(?: *4)?|3(?: *4)?|4)";
    private static final String ONE = " *[pfmdg] *[0-9][0-9]?(?: *:" + RISING + ")?";
    private static final Pattern THEATRE = Pattern.compile(ONE + "(?: *," + ONE + "){0,5} *");

    int theatre() {
        String text = tape.toString();
        tape.setLength(0);
        for (int i = 0; i < text.length(); i++) {
            Matcher matcher = THEATRE.matcher(text.substring(0, i + 1));
            if (!matcher.matches() && !matcher.hitEnd()) return -20 - i;
        }
        if (!THEATRE.matcher(text).matches()) return -20 - text.length();
        World fresh = new World();
        fresh.draw = world.draw;
        for (String one : text.replace(" ", "").split(",")) {
            String[] parts = one.substring(1).split(":");
            int set = 0;
            for (char c : (parts.length > 1 ? parts[1] : "").toCharArray()) set |= 1 << (c - '0');
            fresh.order.add(fresh.people.size());
            fresh.people.add(new Person("pfmdg".indexOf(one.charAt(0)), Integer.parseInt(parts[0]), set));
        }
        world = fresh;
        past.clear();
        return world.people.size();
    }

    int count(int what) {
        return switch (what) {
            case 0 -> world.people.size();
            case 1 -> world.minute;
            case 2 -> world.sitter;
            case 3 -> world.sat;
            case 4 -> world.next();
            case 5 -> world.here();
            case 6 -> past.size();
            case 7 -> world.tricks();
            default -> BAD;
        };
    }

    int minutes(int n) {
        if (!in(n, 1, 40)) return BAD;
        if (world.minute + n > 9999) return FULL;
        for (int i = 0; i < n; i++) {
            keep();
            world.minute(false);
        }
        return world.sitter;
    }

    int learnt(int who, int trick) {
        if (!is(who) || !in(trick, 0, 4)) return BAD;
        if (world.people.get(who).knows[trick]) return NOT;
        keep();
        world.people.get(who).knows[trick] = true;
        return world.people.get(who).set();
    }

    int sent(int who) {
        if (!is(who)) return BAD;
        if (!world.people.get(who).here) return NOT;
        keep();
        world.send(who);
        return world.here();
    }

    int called() {
        if (world.sitter == NONE) return NOT;
        keep();
        int who = world.sitter;
        world.rise();
        return who;
    }

    int changed(int place, int other) {
        if (!is(place) || !is(other) || place == other) return BAD;
        keep();
        java.util.Collections.swap(world.order, place, other);
        return world.order.get(place);
    }

    int drift(int n) {
        if (!in(n, 1, 40)) return BAD;
        if (world.minute + n > 9999) return FULL;
        for (int i = 0; i < n; i++) {
            keep();
            world.draw = (world.draw * 1103515245L + 12345L) % (1L << 31);
            int all = world.people.size();
            if (all > 0) {
                Person person = world.people.get((int) (world.draw / 65536 % all));
                if (person.here) person.knows[(int) (world.draw / 128 % 5)] = true;
            }
            world.minute(false);
        }
        return world.sitter;
    }

    int undo() {
        if (past.isEmpty()) return NONE;
        world = past.removeLast();
        return past.size();
    }

    int seed(int v) {
        if (v < 0) return BAD;
        int was = (int) world.draw;
        world.draw = v;
        return was;
    }

    int ahead(int n, int what) {
        if (!in(n, 0, 99) || !in(what, 0, 1)) return BAD;
        World later = world.after(n);
        return what == 0 ? later.sitter : later.tricks();
    }

    int seen(int who, int n) {
        if (!is(who) || !in(n, 0, 99)) return BAD;
        return world.after(n).people.get(who).seen;
    }

    int first(int who) {
        if (!is(who)) return BAD;
        for (int n = 0; n <= 99; n++) if (world.after(n).sitter == who) return n;
        return NONE;
    }

    int round(int what) {
        if (!in(what, 0, 1)) return BAD;
        if (world.people.isEmpty()) return NONE;
        Map<String, Integer> met = new HashMap<>();
        World later = world.twin();
        for (int n = 0; n <= 300; n++) {
            Integer before = met.put(later.mark(), n);
            if (before != null) return what == 0 ? n : n - before;
            later.minute(false);
        }
        return NONE;
    }

    /** All orders of those left, by rising numbers. */
    private static void orders(List<Integer> dealt, List<Integer> left, List<List<Integer>> all) {
        if (left.isEmpty()) all.add(new ArrayList<>(dealt));
        for (int i = 0; i < left.size(); i++) {
            List<Integer> rest = new ArrayList<>(left);
            dealt.add(rest.remove(i));
            orders(dealt, rest, all);
            dealt.remove(dealt.size() - 1);
        }
    }

    private List<List<Integer>> orders() {
        List<Integer> left = new ArrayList<>();
        for (int i = 0; i < world.people.size(); i++) left.add(i);
        List<List<Integer>> all = new ArrayList<>();
        orders(new ArrayList<>(), left, all);
        return all;
    }

    private int[] seesBy(List<Integer> order, int n) {
        World other = world.twin();
        other.order = order;
        World later = other.after(n);
        int[] sees = new int[world.people.size()];
        for (int i = 0; i < sees.length; i++) sees[i] = later.people.get(i).seen - world.people.get(i).seen;
        return sees;
    }

    private static int kth(int value, List<Integer> order, int k) {
        if (k == -1) return value;
        return k < order.size() ? order.get(k) : NONE;
    }

    int turns(int who, int n, int k) {
        if (!is(who) || !in(n, 1, 40) || k < -1) return BAD;
        int most = -1;
        List<Integer> best = null;
        for (List<Integer> order : orders()) {
            int sees = seesBy(order, n)[who];
            if (sees > most) {
                most = sees;
                best = order;
            }
        }
        return kth(most, best, k);
    }

    int fair(int n, int k) {
        if (!in(n, 1, 40) || k < -1) return BAD;
        if (world.people.isEmpty()) return NONE;
        int least = Integer.MAX_VALUE;
        List<Integer> best = null;
        for (List<Integer> order : orders()) {
            int[] sees = seesBy(order, n);
            Arrays.sort(sees);
            int apart = sees[sees.length - 1] - sees[0];
            if (apart < least) {
                least = apart;
                best = order;
            }
        }
        return kth(least, best, k);
    }

    int learn(int who, int n, int what) {
        if (!is(who) || !in(n, 1, 40) || !in(what, 0, 1)) return BAD;
        int[] best = {NONE, NONE};
        for (int trick = 4; trick >= 0; trick--) {
            if (world.people.get(who).knows[trick]) continue;
            World other = world.twin();
            other.people.get(who).knows[trick] = true;
            int sees = other.after(n).people.get(who).seen - world.people.get(who).seen;
            if (sees >= best[1]) best = new int[] {trick, sees};
        }
        return best[what];
    }

    int pay(int who, int n) {
        if (!is(who) || !in(n, 0, 40)) return BAD;
        for (int paid = 0; paid < 100; paid++) {
            World other = world.twin();
            other.people.get(who).paid = paid;
            if (other.after(n).sitter == who) return paid;
        }
        return NONE;
    }

    int send(int who, int n, int what) {
        if (!is(who) || !in(n, 0, 40) || !in(what, 0, 1)) return BAD;
        for (int size = 0; size < 6; size++) {
            for (int set = 0; set < 64; set++) {
                if (Integer.bitCount(set) != size || (set & world.here()) != set || (set >> who) % 2 == 1) continue;
                World other = world.twin();
                for (int i = 0; i < 6; i++) if ((set >> i) % 2 == 1) other.send(i);
                if (other.after(n).sitter == who) return what == 0 ? size : set;
            }
        }
        return NONE;
    }

    int ousts(int who) {
        if (!is(who)) return BAD;
        if (!world.people.get(who).here) return NOT;
        int set = 0;
        for (int i = 0; i < world.people.size(); i++) {
            if (i != who && world.people.get(i).here && world.wouldOust(who, i)) set += 1 << i;
        }
        return set;
    }

    int safe() {
        int set = 0;
        for (int i = 0; i < world.people.size(); i++) {
            boolean safe = world.people.get(i).here;
            for (int who = 0; who < world.people.size(); who++) {
                if (world.people.get(who).here && (ousts(who) >> i) % 2 == 1) safe = false;
            }
            if (safe) set += 1 << i;
        }
        return set;
    }

    private static BigInteger weight(World world, int who, int n, int c) {
        if (n == 0) return world.sitter == who ? BigInteger.ONE : BigInteger.ZERO;
        BigInteger missing = weight(world.twin().minute(true), who, n - 1, c).multiply(BigInteger.valueOf(c));
        BigInteger coming = weight(world.twin().minute(false), who, n - 1, c).multiply(BigInteger.valueOf(10 - c));
        return missing.add(coming);
    }

    private static long lowest(BigInteger above, BigInteger below, int what) {
        BigInteger common = above.gcd(below);
        return (what == 0 ? above : below).divide(common).longValueExact();
    }

    int miss(int who, int n, int c, int what) {
        if (!is(who) || !in(n, 0, 8) || !in(c, 0, 10) || !in(what, 0, 1)) return BAD;
        return (int) lowest(weight(world, who, n, c), BigInteger.TEN.pow(n), what);
    }

    int image() {
        imageWorld = world.twin();
        imagePast = twins(past);
        return 1;
    }

    int restore() {
        if (imageWorld == null) return NONE;
        world = imageWorld.twin();
        past = twins(imagePast);
        return 1;
    }

    /** What undo hands back is changed from then on, so an image and the past never share a world. */
    private static Deque<World> twins(Deque<World> worlds) {
        Deque<World> twins = new ArrayDeque<>();
        for (World old : worlds) twins.addLast(old.twin());
        return twins;
    }

    private static int lane(Object row) {
        if (row instanceof byte[]) return 0;
        if (row instanceof short[]) return 1;
        return row instanceof int[] ? 2 : 3;
    }

    private int fault(int sheet, int lane, long i, long n) {
        if (!in(sheet, 0, 3) || !in(lane, 0, 3)) return BAD;
        if (sheets[sheet] == null) return NULL;
        if (lane(sheets[sheet]) != lane) return CAST;
        return i < 0 || i + n > java.lang.reflect.Array.getLength(sheets[sheet]) ? INDEX : 0;
    }

    private void put(int sheet, int i, long v) {
        if (sheets[sheet] instanceof byte[] row) row[i] = (byte) v;
        if (sheets[sheet] instanceof short[] row) row[i] = (short) v;
        if (sheets[sheet] instanceof int[] row) row[i] = (int) v;
        if (sheets[sheet] instanceof long[] row) row[i] = v;
    }

    private long[] take(int sheet, int i, int n) {
        long[] taken = new long[n];
        for (int k = 0; k < n; k++) taken[k] = java.lang.reflect.Array.getLong(sheets[sheet], i + k);
        return taken;
    }

    private static boolean fits(World world, long[] row) {
        for (int t = 1; t <= row.length; t++) if (world.after(t).sitter != row[t - 1]) return false;
        return true;
    }

    int stubs(int who, int sheet, int lane, int i, int n, int what) {
        if (!is(who) || !in(n, 1, 8) || !in(what, 0, 2)) return BAD;
        int fault = fault(sheet, lane, i, n);
        if (fault != 0) return fault;
        long[] row = take(sheet, i, n);
        int kinds = 0;
        List<Integer> sets = new ArrayList<>();
        for (int kind = 0; kind < 5; kind++) {
            World other = world.twin();
            other.people.get(who).kind = kind;
            if (fits(other, row)) kinds |= 1 << kind;
        }
        for (int set = 0; set < 32; set++) {
            World other = world.twin();
            other.people.get(who).know(set);
            if (fits(other, row)) sets.add(set);
        }
        if (what == 0) return kinds;
        if (what == 1) return sets.size();
        return sets.isEmpty() ? NONE : sets.get(0);
    }

    long gaps(int sheet, int lane, int i, int n, int m, int what) {
        if (!in(n, 1, 8) || !in(m, 0, 99) || !in(what, 0, 1) || (m == 0 && what == 1)) return BAD;
        int fault = fault(sheet, lane, i, n);
        if (fault != 0) return fault;
        long[] row = take(sheet, i, n);
        Arrays.sort(row);
        if (row[0] < 1 || row[n - 1] > 99 || (m != 0 && row[n - 1] > m)) return NOT;
        if (Arrays.stream(row).distinct().count() < n) return NOT;
        if (m == 0) return row[n - 1];
        BigInteger above = BigInteger.ONE;
        BigInteger below = BigInteger.ONE;
        for (int k = 0; k < n; k++) {
            above = above.multiply(BigInteger.valueOf(row[n - 1] - k));
            below = below.multiply(BigInteger.valueOf(m - k));
        }
        return lowest(above, below, what);
    }

    int film(int n, int sheet, int lane, int i) {
        if (!in(n, 1, 24)) return BAD;
        int fault = fault(sheet, lane, i, n);
        if (fault != 0) return fault;
        for (int t = 1; t <= n; t++) put(sheet, i + t - 1, world.after(t).sitter);
        return n;
    }

    int sheet(int sheet, int lane, int n) {
        if (!in(sheet, 0, 3) || !in(lane, 0, 3) || n > 24) return BAD;
        if (n < 0) return SIZE;
        sheets[sheet] = switch (lane) {
            case 0 -> new byte[n];
            case 1 -> new short[n];
            case 2 -> new int[n];
            default -> new long[n];
        };
        return n;
    }

    int drop(int sheet) {
        if (!in(sheet, 0, 3)) return BAD;
        if (sheets[sheet] == null) return NULL;
        int had = java.lang.reflect.Array.getLength(sheets[sheet]);
        sheets[sheet] = null;
        return had;
    }

    int item(int sheet, int lane, int i, long v) {
        int fault = fault(sheet, lane, i, 1);
        if (fault != 0) return fault;
        put(sheet, i, v);
        return 1;
    }

    int copy(int from, int i, int to, int j, int n) {
        if (!in(from, 0, 3) || !in(to, 0, 3)) return BAD;
        if (sheets[from] == null || sheets[to] == null) return NULL;
        // What is told here is what System.arraycopy finds, in its own order.
        try {
            System.arraycopy(sheets[from], i, sheets[to], j, n);
        } catch (ArrayStoreException e) {
            return CAST;
        } catch (IndexOutOfBoundsException e) {
            return INDEX;
        }
        return n;
    }
}
