import java.lang.management.ManagementFactory;

/** All calls of a run live in one room, so calls have to make nothing anew, the dearest ones least of all. */
public final class RoomTest {
    private static final Checks CHECKS = new Checks("RoomTest");
    private static final int ROUNDS = 512;

    private static long sum = 0;

    public static void main(String[] args) {
        if (!(ManagementFactory.getThreadMXBean() instanceof com.sun.management.ThreadMXBean counter)) {
            System.out.println("RoomTest: this machine does not tell what is made");
            return;
        }
        long thread = Thread.currentThread().getId();
        SoldSeat warm = filled();
        useAll(warm);
        long before = counter.getThreadAllocatedBytes(thread);
        SoldSeat seat = filled();
        long made = counter.getThreadAllocatedBytes(thread) - before;
        CHECKS.due("bytes of an object, " + made, made < 16000);
        before = counter.getThreadAllocatedBytes(thread);
        for (int round = 0; round < ROUNDS; round++) {
            useAll(seat);
        }
        made = counter.getThreadAllocatedBytes(thread) - before;
        CHECKS.due("bytes of " + ROUNDS + " rounds of calls, " + made, made < 4096);
        CHECKS.due("something was answered", sum != 0);
        CHECKS.end();
    }

    private static SoldSeat filled() {
        SoldSeat seat = new SoldSeat();
        for (int b = 0; b < 6; b++) {
            seat.buyer(b % 5, 10 * b, 5 * b + 1);
        }
        return seat;
    }

    private static void useAll(SoldSeat seat) {
        sum += seat.image() + seat.minutes(7) + seat.drift(3) + seat.learnt(0, 1) + seat.changed(0, 1) + seat.called();
        sum += seat.sent(5) + seat.undo() + seat.seed(9) + seat.count(7) + seat.of(0, 6) + seat.turn(0);
        sum += seat.ahead(99, 0) + seat.seen(0, 99) + seat.first(5) + seat.round(0) + seat.turns(2, 9, 0);
        sum += seat.fair(9, 0) + seat.learn(1, 40, 0) + seat.pay(3, 40) + seat.send(4, 40, 0) + seat.ousts(0);
        sum += seat.safe() + seat.miss(0, 8, 5, 0) + seat.sheet(0, 2, 24) + seat.film(24, 0, 2, 0);
        sum += seat.stubs(0, 0, 2, 0, 8, 1) + seat.item(0, 2, 0, 7) + seat.gaps(0, 2, 0, 1, 99, 1);
        sum += seat.copy(0, 0, 0, 1, 20) + seat.restore() + seat.type('p') + seat.type('1') + seat.type('x');
        sum += seat.theatre() + seat.drop(0);
    }
}
