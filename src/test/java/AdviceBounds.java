/** Boundaries of what to do, of odds and of images: promises 22 to 29. */
final class AdviceBounds extends Bounds {
    private AdviceBounds() {
    }

    // ---- promise 22: learn

    private static void learn(String what, SoldSeat seat, int buyer, int n, int trick, int much) {
        due(what + ", the trick", seat.learn(buyer, n, 0), trick);
        due(what + ", how much", seat.learn(buyer, n, 1), much);
    }

    @Says(promise = 22, sentence = "BAD.")
    static void learnRefused() {
        SoldSeat seat = with("p1,p2");
        range("buyer", 0, 1, v -> seat.learn(v, 1, 0));
        range("what", 0, 1, v -> seat.learn(0, 1, v));
        still("buyer 3", busy -> busy.learn(3, 1, 0), BAD);
        SoldSeat knowing = with("p1:01234");
        due("bad ahead of none: buyer", knowing.learn(1, 1, 0), BAD);
        due("bad ahead of none: n", knowing.learn(0, 0, 0), BAD);
        due("bad ahead of none: what", knowing.learn(0, 1, 2), BAD);
    }

    @Says(promise = 22, sentence = "LEARN for one, n MINUTES (1 .. 40)")
    static void learnOfOneToForty() {
        SoldSeat seat = with("p1,p2");
        range("n", 1, 40, v -> seat.learn(0, v, 1));
        learn("one minute", seat, 0, 1, 0, 1);
        learn("40 minutes", seat, 1, 40, 0, 39);
    }

    @Says(promise = 22, sentence = "of like ones the least; how much; none (it knows all)")
    static void learnOfLikeOnes() {
        learn("whatever", with("p1"), 0, 5, 0, 5);
        learn("the least that it does not know", with("p1:01"), 0, 5, 2, 5);
        learn("the last one left", with("p1:0123"), 0, 5, 4, 5);
        learn("the first one left", with("p1:1234"), 0, 5, 0, 5);
        learn("not 0, which is countered", with("p1:1,p1"), 1, 2, 1, 1);
        learn("0, though 1 is countered and 2 is not", with("p1:2,p1"), 1, 2, 0, 1);
        // Each of 0 to 3 is countered, as 1 to 4 are known.
        learn("the last alone", with("p1:1234,p1"), 1, 2, 4, 1);
        learn("none of use", with("p1:01234,p1"), 1, 2, 0, 0);
        SoldSeat home = with("p1,p2");
        home.sent(1);
        learn("who is not here", home, 1, 9, 0, 0);
        learn("what was seen is not counted", behind(9, "p1"), 0, 2, 0, 2);
    }

    @Says(promise = 22, sentence = "LEARN: the TRICK (what 0), how much (1); NONE.")
    static void knowsAll() {
        learn("it knows all", with("p1:01234"), 0, 9, NONE, NONE);
        SoldSeat seat = with("p1:0123");
        seat.learnt(0, 4);
        learn("it knows all now", seat, 0, 9, NONE, NONE);
    }

    // ---- promise 23: pay

    @Says(promise = 23, sentence = "BAD.")
    static void payRefused() {
        SoldSeat seat = with("p1,p2");
        range("buyer", 0, 1, v -> seat.pay(v, 1));
        still("buyer 3", busy -> busy.pay(3, 1), BAD);
        still("n 41", busy -> busy.pay(0, 41), BAD);
    }

    @Says(promise = 23, sentence = "PAY for one, n MINUTES (0 .. 40)")
    static void payOfNoneToForty() {
        SoldSeat seat = behind(1, "p9,d3");
        range("n", 0, 40, v -> seat.pay(0, v));
        due("behind 0, who sits", seat.pay(0, 0), 0);
        due("behind 0, who does not", seat.pay(1, 0), NONE);
        due("behind 40", seat.pay(1, 40), 0);
    }

    @Says(promise = 23, sentence = "the least it should have PAID (0 .. 99) so that it is THE SITTER behind them; "
        + "none.")
    static void theLeastToHavePaid() {
        due("nothing", with("p1").pay(0, 1), 0);
        due("to oust one who paid nothing", with("p0,d0").pay(1, 2), 1);
        due("to oust one who paid 98", with("p98,d0").pay(1, 2), 99);
        due("100 can't be paid", with("p99,d0").pay(1, 2), NONE);
        due("as much as the duchess, not to be ousted", with("p0,d99").pay(0, 2), 99);
        due("not to be ousted by one who paid nothing", with("p9,d0").pay(0, 2), 0);
        due("less than it did", with("p5,d80").pay(1, 2), 6);
    }

    @Says(promise = 23, sentence = "PAY; NONE.")
    static void noPriceIsRight() {
        due("a plain one can't pay", with("p0,p99").pay(1, 2), NONE);
        SoldSeat home = with("p0,d9");
        home.sent(1);
        due("who is not here", home.pay(1, 2), NONE);
    }

    // ---- promise 24: send

    private static void send(String what, SoldSeat seat, int buyer, int n, int many, int which) {
        due(what + ", how many", seat.send(buyer, n, 0), many);
        due(what + ", which", seat.send(buyer, n, 1), which);
    }

    @Says(promise = 24, sentence = "BAD.")
    static void sendRefused() {
        SoldSeat seat = with("p1,p2");
        range("buyer", 0, 1, v -> seat.send(v, 2, 0));
        range("what", 0, 1, v -> seat.send(0, 1, v));
        still("buyer 3", busy -> busy.send(3, 1, 0), BAD);
        due("bad ahead of none", seat.send(0, 0, 2), BAD);
    }

    @Says(promise = 24, sentence = "SEND for one, n MINUTES (0 .. 40)")
    static void sendOfNoneToForty() {
        SoldSeat seat = behind(1, "p1,p2");
        range("n", 0, 40, v -> seat.send(0, v, 0));
        send("behind 0, who sits", seat, 0, 0, 0, 0);
        send("behind 0, who does not", seat, 1, 0, NONE, NONE);
        send("behind 40", seat, 1, 40, 1, 1);
    }

    @Says(promise = 24, sentence = "the fewest others HERE who should be SENT now so that it is THE SITTER behind "
        + "them, "
        + "of like ones the least set: how many; which; none.")
    static void theFewest() {
        SoldSeat seat = with("p1,p1,p1,p1,p1,p1");
        send("nobody", seat, 0, 6, 0, 0);
        send("all others", seat, 5, 6, 5, 31);
        send("too early for that", seat, 5, 5, NONE, NONE);
        seat.sent(2);
        send("those who are here", seat, 5, 6, 4, 27);
        // Without 3 buyer 2 stays, having spent 0; without 0 and 1 it need not spend 0, by which it counters 4.
        send("fewer ahead of a lesser set", with("p1,p1,p1:0,p1:4"), 2, 4, 1, 8);
        // Buyer 2 knows 1 still, if it did not have to oust 1 or if it is not here itself: either has to go.
        send("of like ones the least", with("p1,p1:12,p1:13,p1:0"), 3, 4, 1, 2);
        SoldSeat sitting = behind(1, "p5:1,p5:0,p5");
        send("the sitter", sitting, 1, 1, 1, 1);
    }

    @Says(promise = 24, sentence = "SEND: how many (what 0), which (1); NONE.")
    static void sendWhoIsNotHere() {
        SoldSeat home = with("p1,p2");
        home.sent(1);
        send("who is not here", home, 1, 9, NONE, NONE);
    }

    // ---- promise 25: ousts

    @Says(promise = 25, sentence = "BAD;")
    static void oustsRefused() {
        SoldSeat seat = with("p1,p2");
        range("buyer", 0, 1, seat::ousts);
        still("buyer 3", busy -> busy.ousts(3), BAD);
        still("buyer -1", busy -> busy.ousts(-1), BAD);
    }

    @Says(promise = 25, sentence = "NOT: it is not HERE.")
    static void oustsFromHome() {
        SoldSeat seat = with("f1,f2");
        due("here", seat.ousts(0), 2);
        seat.sent(0);
        due("not here", seat.ousts(0), NOT);
        due("nobody left to oust", seat.ousts(1), 0);
        seat.undo();
        due("here again", seat.ousts(0), 2);
    }

    @Says(promise = 25, sentence = "OUSTS of one: those HERE (a set, not itself) whom it would oust now, were they "
        + "THE SITTER (SAT as THE SITTER has now, 0, if THE SEAT is empty; the MINUTE as it is), whosever TURN it is")
    static void whomItWouldOust() {
        SoldSeat friends = with("f1,f1,f1,f1,f1,f1");
        for (int b = 0; b < 6; b++) {
            due("all but itself in minute 0", friends.ousts(b), 63 - (1 << b));
        }
        friends.minutes(4);
        due("nobody in minute 4", friends.ousts(3), 0);
        friends.minutes(1);
        due("the sitter, too, in minute 5", friends.ousts(3), 55);
        due("by the sitter", friends.ousts(0), 62);
        friends.sent(5);
        due("those here", friends.ousts(0), 30);
        SoldSeat meek = with("p5,m5:0");
        due("empty: sat 0", meek.ousts(1), 0);
        meek.minutes(3);
        due("sat 3", meek.ousts(1), 0);
        meek.changed(0, 1);
        meek.minutes(1);
        due("sat 4", meek.ousts(1), 1);
        meek.called();
        due("empty again: sat 0", meek.ousts(1), 0);
        due("nobody else", with("f1").ousts(0), 0);
    }

    // ---- promise 26: safe

    @Says(promise = 26, sentence = "SAFE (a set).")
    static void emptyAndFullSets() {
        due("no buyers", new SoldSeat().safe(), 0);
        due("all six", with("p1,p1,p1,p1,p1,p1").safe(), 63);
        due("none of six in minute 0", with("f1,f1,f1,f1,f1,f1").safe(), 0);
    }

    @Says(promise = 26, sentence = "SAFE: those HERE (a set) whom nobody HERE would oust so.")
    static void nobodyWouldOust() {
        due("a single one, though a friend", with("f1").safe(), 1);
        SoldSeat seat = with("p5:0,p5:1");
        due("0 is countered by 1", seat.safe(), 2);
        due("1 is ousted by the first", with("p5:1,p5:0").safe(), 1);
        seat.sent(1);
        due("nobody here would", seat.safe(), 1);
        seat.sent(0);
        due("nobody is here", seat.safe(), 0);
        SoldSeat meek = with("p5,m5:0");
        due("sat 0", meek.safe(), 3);
        meek.minutes(3);
        due("sat 3", meek.safe(), 3);
        meek.changed(0, 1);
        meek.minutes(1);
        due("sat 4", meek.safe(), 2);
    }

    // ---- promise 27: miss

    private static void miss(String what, SoldSeat seat, int buyer, int n, int c, int above, int below) {
        due(what + ", above", seat.miss(buyer, n, c, 0), above);
        due(what + ", below", seat.miss(buyer, n, c, 1), below);
    }

    @Says(promise = 27, sentence = "BAD.")
    static void missRefused() {
        SoldSeat seat = with("p1,p2");
        range("buyer", 0, 1, v -> seat.miss(v, 1, 1, 0));
        range("what", 0, 1, v -> seat.miss(0, 1, 1, v));
        still("buyer 3", busy -> busy.miss(3, 1, 1, 0), BAD);
    }

    @Says(promise = 27, sentence = "MISS by c of 10 (0 .. 10)")
    static void neverToAlways() {
        SoldSeat seat = with("p1");
        range("c", 0, 10, v -> seat.miss(0, 1, v, 0));
        miss("never", seat, 0, 8, 0, 1, 1);
        miss("always", seat, 0, 8, 10, 0, 1);
        miss("once of 10", seat, 0, 1, 1, 9, 10);
        miss("nine of 10", seat, 0, 1, 9, 1, 10);
        seat.minutes(1);
        miss("who sits, always", seat, 0, 8, 10, 1, 1);
    }

    @Says(promise = 27, sentence = "in each of the next n MINUTES (0 .. 8) whose TURN it is misses it by c of 10, "
        + "apart "
        + "(nobody sits down then)")
    static void noneToEightMinutes() {
        SoldSeat seat = with("p1");
        range("n", 0, 8, v -> seat.miss(0, v, 5, 0));
        miss("none, nobody sits", seat, 0, 0, 5, 0, 1);
        // All but that all eight are missed: 1 less 9 / 10 to the 8th.
        miss("eight", seat, 0, 8, 9, 56953279, 100000000);
        miss("eight", seat, 0, 8, 1, 99999999, 100000000);
        SoldSeat two = with("p1,p2");
        miss("missed, so the other one sits", two, 1, 2, 3, 21, 100);
        miss("not missed, so the other one does not", two, 0, 2, 3, 7, 10);
        seat.minutes(1);
        miss("none, it sits", seat, 0, 0, 5, 1, 1);
    }

    @Says(promise = 27, sentence = "how likely one is THE SITTER behind them: a fraction in lowest terms")
    static void lowestTerms() {
        SoldSeat seat = with("p1,p2");
        miss("nothing is 0 by 1", seat, 1, 1, 5, 0, 1);
        miss("all is 1 by 1", seat, 0, 1, 0, 1, 1);
        miss("5 of 10", seat, 0, 1, 5, 1, 2);
        miss("4 of 10", seat, 0, 1, 4, 3, 5);
        miss("25 of 100", seat, 1, 2, 5, 1, 4);
        miss("1 less 1 / 2 to the 8th", with("p1"), 0, 8, 5, 255, 256);
    }

    // ---- promises 28, 29: image, restore

    @Says(promise = 28, sentence = "All but SHEETS, THE TAPE is kept as an IMAGE: 1.")
    static void allButSheetsAndTape() {
        SoldSeat seat = busy();
        due("kept", seat.image(), 1);
        Object then = Looks.now(seat);
        seat.drop(0);
        seat.type(',');
        seat.minutes(40);
        seat.buyer(0, 0, 0);
        due("restored", seat.restore(), 1);
        due("all is as it was", Looks.now(seat).equals(then) ? 1 : 0, 1);
        due("but a sheet", seat.drop(0), NULL);
        due("and the tape", seat.theatre(), -23);
        due("what may be undone, too", seat.undo(), 3);
    }

    @Says(promise = 28, sentence = "is kept as an IMAGE: 1.")
    static void theLatestImageIsKept() {
        SoldSeat seat = busy();
        Object then = Looks.now(seat);
        seat.image();
        due("an image changes nothing", Looks.now(seat).equals(then) ? 1 : 0, 1);
        seat.seed(3);
        seat.image();
        seat.seed(4);
        seat.restore();
        due("the latest image counts", seat.seed(5), 3);
    }

    @Says(promise = 29, sentence = "NONE: there is none.")
    static void thereIsNone() {
        SoldSeat seat = with("p1:0,p2:1");
        seat.minutes(1);
        due("none", seat.restore(), NONE);
        still("none", () -> behind(2, "p1:0,p2:1"), SoldSeat::restore, NONE);
        seat.image();
        due("now there is one", seat.restore(), 1);
        due("and again", seat.restore(), 1);
    }

    @Says(promise = 29, sentence = "All is as it was then: 1.")
    static void anEmptyImage() {
        SoldSeat seat = new SoldSeat();
        seat.image();
        read(seat, "p1,p2,p3,p4,p5,p6");
        seat.seed(9);
        seat.minutes(9);
        due("restored", seat.restore(), 1);
        int[] counts = {0, 0, NONE, 0, NONE, 0, 0, 0};
        for (int what = 0; what < counts.length; what++) {
            due("count " + what, seat.count(what), counts[what]);
        }
        due("the draw", seat.seed(1), 1);
        due("nothing to be undone", seat.undo(), NONE);
        SoldSeat full = behind(9, "p1");
        full.image();
        for (int twice = 0; twice < 2; twice++) {
            // As many as are known, so that none of what the image keeps is left by chance.
            full.minutes(9);
            read(full, "p1,p2");
            full.minutes(9);
            full.restore();
            due("eight to be undone", full.count(6), 8);
            for (int left = 7; left >= 0; left--) {
                due("undone", full.undo(), left);
                due("the minute", full.count(1), left + 1);
            }
        }
    }
}
