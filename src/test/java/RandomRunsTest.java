import java.util.Random;

/** Random runs of calls on the class and on the plain model, whose answers have to be alike. */
public final class RandomRunsTest {
    private static final int RUNS = 400;
    private static final int CALLS = 512;
    private static final int[] WILD = {
        Integer.MIN_VALUE, Integer.MIN_VALUE + 1, -1000, -25, -2, -1, 0, 1, 2, 3, 4, 5, 6, 7, 8, 9, 10, 11, 23, 24, 25,
        31, 32, 39, 40, 41, 70, 98, 99, 100, 126, 127, 300, 301, 9999, 10000, Integer.MAX_VALUE - 1, Integer.MAX_VALUE};
    private static final String[] THEATRES = {
        "p20:03,f9:1,m50:24,d70:012,g5:34,p33:1", "g1,g2:0,m3:01234", "d9,d8,d7,d6,d5,d4", "f0:1,f0:2,f0:3",
        "p1:0,p1:1,p1:2,p1:3,p1:4", "m0:0,g0:1,m0:2,g0:3", " p 9 9 ", " d 07 : 0 2 4 , g 1 ", "p1,p2,p3,p4,p5,p6,p7",
        "m8:0124,d0:02,f4:01,d8:012,d2:12,m2:01234", "f4:234,d9:023,m7:013,m2:023,p3:0134,m5:0234",
        "f4:134,g6:2,g2:013,f3:0124,f6:0,g7:123", "f7:04,g9:1234,p3:01,f6:12,g9:234,d3:0", "p1:01234 , f2 : 4",
        "p100", "p1 2", "p5:", "p5:21", "p5:4,", "x", "", "   ", "p1;f2", "p5:5", "pp", "p1:012343"};

    private static int wrong = 0;

    private final Random random;
    private final SoldSeat real = new SoldSeat();
    private final PlainModel model = new PlainModel();
    private final StringBuilder told = new StringBuilder();

    private RandomRunsTest(long seed) {
        random = new Random(seed);
    }

    public static void main(String[] args) {
        for (int run = 0; run < RUNS && wrong < 5; run++) {
            new RandomRunsTest(run).run(run);
        }
        System.out.println(wrong == 0 ? RUNS + " random runs are as the model" : wrong + " runs differ from the model");
        if (wrong != 0) System.exit(1);
    }

    private void run(int number) {
        for (int calls = 0; calls < CALLS; calls++) {
            if (!step() || !alike()) {
                wrong++;
                String all = told.toString();
                System.out.println("run " + number + ":" + all.substring(Math.max(0, all.length() - 1500)));
                return;
            }
        }
    }

    private boolean same(String call, long got, long want) {
        told.append('\n').append(call).append(" answered ").append(got);
        if (got != want) told.append(", due is ").append(want);
        return got == want;
    }

    /** All that can be seen without a change is looked at behind every call. */
    private boolean alike() {
        for (int what = 0; what < 8; what++) {
            if (real.count(what) != model.count(what)) return same("count " + what, real.count(what), model.count(what));
        }
        for (int who = 0; who < model.count(0); who++) {
            for (int what = 0; what < 7; what++) {
                int want = model.of(who, what);
                if (real.of(who, what) != want) return same("of " + who + " " + what, real.of(who, what), want);
            }
            if (real.turn(who) != model.turn(who)) return same("turn " + who, real.turn(who), model.turn(who));
        }
        return true;
    }

    /** Mostly from low to high, sometimes wild. */
    private int pick(int low, int high) {
        if (random.nextInt(25) == 0) return WILD[random.nextInt(WILD.length)];
        return low + random.nextInt(high - low + 1);
    }

    private int who() {
        int all = model.count(0);
        return pick(0, Math.max(0, all - 1));
    }

    private boolean step() {
        int dice = random.nextInt(100);
        if (dice < 40) return doSomething();
        if (dice < 72) return foretell();
        return useSheets();
    }

    private boolean doSomething() {
        switch (random.nextInt(14)) {
            case 0: case 1: {
                int kind = pick(0, 4), paid = pick(0, 99), tricks = pick(0, 31);
                return same("buyer " + kind + " " + paid + " " + tricks, real.buyer(kind, paid, tricks),
                    model.buyer(kind, paid, tricks));
            }
            case 2: return typeTheatre();
            case 3: case 4: case 5: {
                int n = random.nextInt(3) == 0 ? pick(1, 40) : pick(1, 3);
                return same("minutes " + n, real.minutes(n), model.minutes(n));
            }
            case 6: {
                int b = who(), t = pick(0, 4);
                return same("learnt " + b + " " + t, real.learnt(b, t), model.learnt(b, t));
            }
            case 7: {
                int b = who();
                if (random.nextInt(3) > 0) return true;
                return same("sent " + b, real.sent(b), model.sent(b));
            }
            case 8: return same("called", real.called(), model.called());
            case 9: {
                int p = who(), o = who();
                return same("changed " + p + " " + o, real.changed(p, o), model.changed(p, o));
            }
            case 10: {
                int n = random.nextInt(4) == 0 ? pick(1, 40) : pick(1, 3);
                return same("drift " + n, real.drift(n), model.drift(n));
            }
            case 11: return same("undo", real.undo(), model.undo());
            case 12: {
                int v = random.nextInt();
                return same("seed " + v, real.seed(v), model.seed(v));
            }
            default:
                if (random.nextInt(3) == 0) return same("image", real.image(), model.image());
                return same("restore", real.restore(), model.restore());
        }
    }

    private boolean typeTheatre() {
        String text = THEATRES[random.nextInt(THEATRES.length)];
        if (random.nextInt(2) == 0 && !text.isEmpty()) {
            int at = random.nextInt(text.length());
            char letter = "pfmdg0123456789:, ;".charAt(random.nextInt(19));
            text = text.substring(0, at) + letter + text.substring(at + random.nextInt(2));
        }
        for (char c : text.toCharArray()) {
            if (!same("type " + (int) c, real.type(c), model.type(c))) return false;
        }
        int wild = pick(32, 126);
        if (random.nextInt(20) == 0 && !same("type " + wild, real.type(wild), model.type(wild))) return false;
        if (random.nextInt(20) == 0) return true;
        return same("theatre [" + text + "]", real.theatre(), model.theatre());
    }

    private boolean foretell() {
        int b = who(), what = pick(0, 1);
        switch (random.nextInt(12)) {
            case 0: {
                int n = pick(0, 99);
                return same("ahead " + n + " " + what, real.ahead(n, what), model.ahead(n, what));
            }
            case 1: {
                int n = pick(0, 99);
                return same("seen " + b + " " + n, real.seen(b, n), model.seen(b, n));
            }
            case 2: return same("first " + b, real.first(b), model.first(b));
            case 3: return same("round " + what, real.round(what), model.round(what));
            case 4: {
                if (random.nextInt(10) > 0) return true;
                int n = pick(1, 40), k = pick(-1, 6);
                return same("turns " + b + " " + n + " " + k, real.turns(b, n, k), model.turns(b, n, k));
            }
            case 5: {
                if (random.nextInt(10) > 0) return true;
                int n = pick(1, 40), k = pick(-1, 6);
                return same("fair " + n + " " + k, real.fair(n, k), model.fair(n, k));
            }
            case 6: {
                int n = pick(1, 40);
                return same("learn " + b + " " + n + " " + what, real.learn(b, n, what), model.learn(b, n, what));
            }
            case 7: {
                int n = pick(0, 40);
                return same("pay " + b + " " + n, real.pay(b, n), model.pay(b, n));
            }
            case 8: {
                int n = pick(0, 40);
                return same("send " + b + " " + n + " " + what, real.send(b, n, what), model.send(b, n, what));
            }
            case 9: return same("ousts " + b, real.ousts(b), model.ousts(b));
            case 10: return same("safe", real.safe(), model.safe());
            default: {
                int n = pick(0, 8), c = pick(0, 10);
                return same("miss " + b + " " + n + " " + c + " " + what, real.miss(b, n, c, what),
                    model.miss(b, n, c, what));
            }
        }
    }

    private int laneOf(int sheet) {
        Object row = sheet >= 0 && sheet < 4 ? model.sheets[sheet] : null;
        if (row == null || random.nextInt(15) == 0) return pick(0, 3);
        return row instanceof byte[] ? 0 : row instanceof short[] ? 1 : row instanceof int[] ? 2 : 3;
    }

    private boolean useSheets() {
        int s = pick(0, 3), lane = laneOf(s), i = random.nextInt(2) == 0 ? 0 : pick(-1, 24);
        switch (random.nextInt(9)) {
            case 0: {
                int n = pick(-1, 24), made = random.nextInt(2) == 0 ? 2 : pick(0, 3);
                return same("sheet " + s + " " + made + " " + n, real.sheet(s, made, n), model.sheet(s, made, n));
            }
            case 1:
                if (random.nextInt(4) > 0) return true;
                return same("drop " + s, real.drop(s), model.drop(s));
            case 2: case 3: {
                long v = random.nextInt(4) == 0 ? random.nextLong() >> random.nextInt(64) : 1 + random.nextInt(20);
                if (random.nextInt(6) == 0) v += 1L << 8 * (1 + random.nextInt(7));
                return same("item " + s + " " + lane + " " + i + " " + v, real.item(s, lane, i, v),
                    model.item(s, lane, i, v));
            }
            case 4: {
                int to = pick(0, 3), j = pick(0, 12), n = pick(-1, 12);
                return same("copy " + s + " " + i + " " + to + " " + j + " " + n, real.copy(s, i, to, j, n),
                    model.copy(s, i, to, j, n));
            }
            case 5: {
                int n = random.nextInt(2) == 0 ? pick(1, 24) : pick(1, 8);
                return same("film " + n + " " + s + " " + lane + " " + i, real.film(n, s, lane, i),
                    model.film(n, s, lane, i));
            }
            case 6: {
                int n = pick(1, 3), m = random.nextInt(2) == 0 ? 0 : pick(1, 99), what = pick(0, 1);
                return same("gaps " + s + " " + lane + " " + i + " " + n + " " + m + " " + what,
                    real.gaps(s, lane, i, n, m, what), model.gaps(s, lane, i, n, m, what));
            }
            default: {
                int b = who(), n = pick(1, 8), what = pick(0, 2);
                return same("stubs " + b + " " + s + " " + lane + " " + i + " " + n + " " + what,
                    real.stubs(b, s, lane, i, n, what), model.stubs(b, s, lane, i, n, what));
            }
        }
    }
}
