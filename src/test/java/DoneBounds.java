/** Boundaries of what is done and undone: promises 8 to 15. */
final class DoneBounds extends Bounds {
    private DoneBounds() {
    }

    // A new buyer leaves nothing to be undone, so that all can be looked at within 512 calls.
    private static SoldSeat late(int minute) {
        SoldSeat seat = behind(minute, "p1:0");
        seat.buyer(1, 2, 0);
        seat.learnt(0, 1);
        return seat;
    }

    // ---- promise 8: minutes

    @Says(promise = 8, sentence = "n MINUTES (1 .. 40; each by itself may be UNDONE): THE SITTER (NONE).")
    static void oneToForty() {
        range("n", 1, 40, v -> with("p1").minutes(v));
        SoldSeat seat = new SoldSeat();
        due("nobody", seat.minutes(40), NONE);
        due("40 minutes", seat.count(1), 40);
        seat.buyer(0, 0, 0);
        due("one minute", seat.minutes(1), 0);
        due("41 minutes", seat.count(1), 41);
        due("each by itself: one", seat.count(6), 1);
        seat.minutes(3);
        due("each by itself: four", seat.count(6), 4);
        due("undone", seat.undo(), 3);
        due("one of three", seat.count(1), 43);
        seat.sent(0);
        due("nobody is here", seat.minutes(40), NONE);
    }

    @Says(promise = 8, sentence = "BAD;")
    static void minutesRefused() {
        still("0", seat -> seat.minutes(0), BAD);
        still("41", seat -> seat.minutes(41), BAD);
        still("the least int", seat -> seat.minutes(MIN), BAD);
        still("the greatest int", seat -> seat.minutes(MAX), BAD);
    }

    @Says(promise = 8, sentence = "FULL: the MINUTE would be above 9999.")
    static void theLastMinute() {
        SoldSeat seat = behind(9960, "p1");
        due("to 10000", seat.minutes(40), FULL);
        due("the minute stays", seat.count(1), 9960);
        due("to 9999", seat.minutes(39), 0);
        due("the last minute", seat.count(1), 9999);
        due("one more", seat.minutes(1), FULL);
        due("the last minute", seat.count(1), 9999);
        due("seen", seat.of(0, 3), 9999);
        due("one back", seat.undo(), 7);
        due("one more", seat.minutes(1), 0);
        still("above 9999", () -> late(9999), full -> full.minutes(1), FULL);
        still("by one above 9999", () -> late(9960), full -> full.minutes(40), FULL);
    }

    @Says(promise = 8, sentence = "of several the first that a call names")
    static void badAheadOfFull() {
        SoldSeat seat = behind(9999, "p1");
        due("minutes 41", seat.minutes(41), BAD);
        due("minutes 0", seat.minutes(0), BAD);
        due("drift 41", seat.drift(41), BAD);
        due("drift 0", seat.drift(0), BAD);
    }

    @Says(promise = 8, sentence = "this one is THE SITTER from now on (SAT 0)")
    static void satAnew() {
        SoldSeat seat = behind(5, "p1,f1");
        due("sat", seat.count(3), 5);
        due("the friend in minute 5", seat.minutes(1), 1);
        due("sat anew", seat.count(3), 1);
    }

    @Says(promise = 8, sentence = "if THE SEAT was not empty, and it knows a TRICK that was not COUNTERED, "
        + "the least such is spent (it does not know it any more)")
    static void spending() {
        SoldSeat seat = with("p5:01234,p5:01234");
        seat.minutes(1);
        due("nothing is spent for an empty seat", seat.of(0, 2), 31);
        SoldSeat last = behind(2, "p5:1234,p5:01234");
        due("4 alone is not countered", last.count(2), 1);
        due("4 is spent", last.of(1, 2), 15);
        due("the one who was ousted keeps all", last.of(0, 2), 30);
        SoldSeat least = behind(2, "p5:2,p5:01234");
        due("0 is the least", least.of(1, 2), 30);
        SoldSeat second = behind(2, "p5:1,p5:01234");
        due("0 is countered, 1 is spent", second.of(1, 2), 29);
        SoldSeat friend = behind(6, "p5:0,f5:4");
        due("a friend by the minute", friend.count(2), 1);
        due("what is countered is kept", friend.of(1, 2), 16);
        SoldSeat duchess = behind(2, "p5:0,d6:34");
        due("a duchess by her price", duchess.count(2), 1);
        due("what is not countered is spent", duchess.of(1, 2), 16);
        SoldSeat ghost = behind(2, "p5,g6");
        due("a ghost without tricks", ghost.count(2), 1);
        due("nothing to spend", ghost.of(1, 2), 0);
    }

    @Says(promise = 8, sentence = "Then THE SITTER, if there is one, has SEEN, SAT 1 MINUTE more. It is the next "
        + "MINUTE.")
    static void seenInAMinute() {
        SoldSeat seat = with("p1,p2");
        seat.sent(0);
        due("nobody sits", seat.minutes(1), NONE);
        due("nobody has seen", seat.of(0, 3) + seat.of(1, 3), 0);
        due("nobody sat", seat.count(3), 0);
        due("the next minute", seat.count(1), 1);
        due("one sits", seat.minutes(1), 1);
        due("and sees the minute", seat.of(1, 3), 1);
        due("and sat", seat.count(3), 1);
    }

    // ---- promise 9: learnt

    @Says(promise = 9, sentence = "BAD;")
    static void learntRefused() {
        range("buyer", 0, 1, v -> with("p1,p2").learnt(v, 0));
        range("trick", 0, 4, v -> with("p1,p2").learnt(1, v));
        still("buyer 3", seat -> seat.learnt(3, 0), BAD);
        still("trick 5", seat -> seat.learnt(0, 5), BAD);
        still("trick -1", seat -> seat.learnt(0, -1), BAD);
        still("trick 32", seat -> seat.learnt(0, 32), BAD);
    }

    @Says(promise = 9, sentence = "NOT: it knows it.")
    static void knownAlready() {
        SoldSeat seat = with("p1,p2:01234");
        for (int trick = 0; trick < 5; trick++) {
            due("known", seat.learnt(1, trick), NOT);
            due("not yet known", seat.learnt(0, trick), (2 << trick) - 1);
            due("known now", seat.learnt(0, trick), NOT);
        }
        due("five were learnt", seat.count(6), 5);
        still("known", busy -> busy.learnt(0, 3), NOT);
    }

    @Says(promise = 9, sentence = "LEARNT: what it knows then (a set).")
    static void learntBySomeoneAtHome() {
        SoldSeat seat = with("p1:01");
        seat.sent(0);
        due("who is not here", seat.learnt(0, 4), 19);
        due("knows it", seat.of(0, 2), 19);
    }

    // ---- promise 10: sent

    @Says(promise = 10, sentence = "BAD;")
    static void sentRefused() {
        range("buyer", 0, 1, v -> with("p1,p2").sent(v));
        still("buyer 3", seat -> seat.sent(3), BAD);
        still("buyer -1", seat -> seat.sent(-1), BAD);
        still("buyer 32", seat -> seat.sent(32), BAD);
    }

    @Says(promise = 10, sentence = "NOT: it was.")
    static void sentAlready() {
        SoldSeat seat = with("p1,p2");
        due("sent", seat.sent(1), 1);
        due("again", seat.sent(1), NOT);
        due("once to be undone", seat.count(6), 1);
        due("undone", seat.undo(), 0);
        due("sent anew", seat.sent(1), 1);
        still("again", () -> {
            SoldSeat busy = busy();
            busy.sent(1);
            return busy;
        }, busy -> busy.sent(1), NOT);
    }

    @Says(promise = 10, sentence = "SENT: who is HERE then (a set).")
    static void theLastOneGoesHome() {
        SoldSeat seat = with("p1,p2,p3,p4,p5,p6");
        int[] wants = {62, 60, 56, 48, 32, 0};
        for (int b = 0; b < 6; b++) {
            due("here", seat.sent(b), wants[b]);
        }
        due("nobody comes", seat.minutes(12), NONE);
        due("they are still six", seat.count(0), 6);
    }

    @Says(promise = 10, sentence = "if it is THE SITTER, THE SEAT is empty")
    static void theSitterGoesHome() {
        SoldSeat seat = with("p1,p2,p3");
        seat.changed(0, 1);
        seat.minutes(3);
        seat.sent(0);
        due("one ahead of the sitter", seat.count(2), 1);
        seat.sent(2);
        due("one behind the sitter", seat.count(2), 1);
        due("sat", seat.count(3), 3);
        seat.sent(1);
        due("the sitter", seat.count(2), NONE);
        due("nobody sat", seat.count(3), 0);
        due("who sat has seen all the same", seat.of(1, 3), 3);
    }

    // ---- promise 11: called

    @Says(promise = 11, sentence = "NOT: THE SEAT is empty.")
    static void nobodyToBeCalled() {
        SoldSeat seat = with("p1,p2");
        due("empty at first", seat.called(), NOT);
        seat.minutes(1);
        due("called", seat.called(), 0);
        due("empty again", seat.called(), NOT);
        due("two to be undone", seat.count(6), 2);
        seat.minutes(1);
        seat.sent(1);
        due("empty, as the sitter went home", seat.called(), NOT);
        still("empty", () -> {
            SoldSeat busy = busy();
            busy.called();
            return busy;
        }, SoldSeat::called, NOT);
    }

    @Says(promise = 11, sentence = "CALLED: THE SITTER stands up: THE SEAT is empty.")
    static void calledButHere() {
        SoldSeat seat = behind(2, "p1:01");
        due("called", seat.called(), 0);
        due("the seat", seat.count(2), NONE);
        due("nobody sat", seat.count(3), 0);
        due("still here", seat.count(5), 1);
        due("sits down again", seat.minutes(1), 0);
        due("and spends nothing", seat.of(0, 2), 3);
    }

    // ---- promise 12: changed

    @Says(promise = 12, sentence = "BAD: alike, too.")
    static void changedRefused() {
        range("place", 0, 2, v -> with("p1,p2,p3").changed(v, 1));
        range("other", 0, 2, v -> with("p1,p2,p3").changed(1, v));
        for (int place = 0; place < 3; place++) {
            int alike = place;
            still("alike", seat -> seat.changed(alike, alike), BAD);
        }
        still("place 3", seat -> seat.changed(3, 0), BAD);
        still("other -1", seat -> seat.changed(0, -1), BAD);
        due("a single buyer", with("p1").changed(0, 0), BAD);
        due("a single buyer", with("p1").changed(0, 1), BAD);
    }

    @Says(promise = 12, sentence = "CHANGED: who is in the first of the two places then.")
    static void theFirstOfTheTwo() {
        SoldSeat seat = with("p1,p2,p3,p4,p5,p6");
        due("first and last", seat.changed(0, 5), 5);
        due("last and first", seat.changed(5, 0), 5);
        due("place 0", seat.turn(0), 0);
        due("place 5", seat.turn(5), 5);
    }

    // ---- promise 13: drift

    private static int step(int draw) {
        return (int) ((draw * 1103515245L + 12345L) % 2147483648L);
    }

    @Says(promise = 13, sentence = "A DRIFT of n MINUTES (1 .. 40; each with its rumour one that may be UNDONE): "
        + "THE SITTER (NONE).")
    static void driftOfOneToForty() {
        range("n", 1, 40, v -> with("p1").drift(v));
        SoldSeat seat = new SoldSeat();
        due("nobody", seat.drift(40), NONE);
        due("40 minutes", seat.count(1), 40);
        due("eight of them", seat.count(6), 8);
        seat = with("p1,p2,p3,p4,p5,p6");
        due("two", seat.drift(2), 0);
        due("two to be undone", seat.count(6), 2);
        due("two rumours", seat.count(7), 2);
        due("one is undone with its rumour", seat.undo(), 1);
        due("one rumour", seat.count(7), 1);
        due("one minute", seat.count(1), 1);
        due("one draw", seat.seed(0), step(1));
    }

    @Says(promise = 13, sentence = "BAD;")
    static void driftRefused() {
        still("0", seat -> seat.drift(0), BAD);
        still("41", seat -> seat.drift(41), BAD);
        still("the least int", seat -> seat.drift(MIN), BAD);
        still("the greatest int", seat -> seat.drift(MAX), BAD);
    }

    @Says(promise = 13, sentence = "FULL: likewise.")
    static void driftToTheLastMinute() {
        still("to 10000", () -> late(9960), seat -> seat.drift(40), FULL);
        still("above 9999", () -> late(9999), seat -> seat.drift(1), FULL);
        SoldSeat seat = behind(9960, "p1");
        due("to 9999", seat.drift(39), 0);
        due("the last minute", seat.count(1), 9999);
        due("one more", seat.drift(1), FULL);
    }

    @Says(promise = 13, sentence = "DRIFT by a seed: THE DRAW is a number of 31 bits (1 at first)")
    static void theDrawAtFirst() {
        SoldSeat seat = new SoldSeat();
        due("at first", seat.seed(0), 1);
        due("the least", seat.seed(MAX), 0);
        due("the greatest", seat.seed(1), MAX);
    }

    @Says(promise = 13, sentence = "it becomes the lowest 31 bits of itself times 1103515245 and 12345 more")
    static void theDrawWrapsAround() {
        int[] draws = {0, 1, 2, 3, 1103527590, 377401575, 1 << 30, MAX - 1, MAX};
        for (int draw : draws) {
            SoldSeat seat = new SoldSeat();
            seat.seed(draw);
            seat.drift(1);
            due("from " + draw, seat.seed(0), step(draw));
        }
        due("from 0, by hand", step(0), 12345);
        due("from 1, by hand", step(1), 1103527590);
        // 2147483647 times a number is, by 31 bits, that number below 0: 2147483648 - 1103515245 + 12345
        due("from the greatest, by hand", step(MAX), 1043980748);
    }

    @Says(promise = 13, sentence = "What is divided is cut.")
    static void drawsAreCut() {
        // 12345 by 65536 is 0, by 128 it is 96 and something: 1 left over by 5.
        for (int people = 1; people <= 6; people++) {
            SoldSeat seat = with("p1,p1,p1,p1,p1,p1".substring(0, 3 * people - 1));
            seat.seed(0);
            seat.drift(1);
            due("buyer 0 of " + people, seat.of(0, 2), 2);
            due("nobody else", seat.count(7), 1);
        }
    }

    @Says(promise = 13, sentence = "the BUYER that is it by 65536, left over by how many there are, knows the "
        + "TRICK that is "
        + "it by 128, left over by 5 (if it is HERE; nobody, if there are none)")
    static void whoHearsWhat() {
        for (int people = 1; people <= 6; people++) {
            for (int v = 0; v < 60; v++) {
                SoldSeat seat = with("p1,p1,p1,p1,p1,p1".substring(0, 3 * people - 1));
                int draw = v * 35791394;
                seat.seed(draw);
                seat.drift(1);
                int next = step(draw);
                due("of " + people + " by " + draw, seat.of(next / 65536 % people, 2), 1 << next / 128 % 5);
                due("just one", seat.count(7), 1);
            }
        }
        // By draw 1103527590 it is buyer 16838 by 6, 2 left over, and trick 8621309 by 5, 4 left over.
        SoldSeat seat = with("p1,p1,p1,p1,p1,p1");
        seat.sent(2);
        seat.drift(1);
        due("who is not here hears nothing", seat.count(7), 0);
        due("the draw goes on", seat.seed(1), 1103527590);
        SoldSeat knowing = with("p1,p1,p1:4,p1,p1,p1");
        knowing.drift(1);
        due("who knows it knows it still", knowing.of(2, 2), 16);
        due("nobody hears another", knowing.count(7), 1);
        SoldSeat nobody = new SoldSeat();
        due("nobody is there", nobody.drift(1), NONE);
        due("the draw goes on", nobody.seed(1), 1103527590);
    }

    @Says(promise = 13, sentence = "ahead of each MINUTE of a DRIFT")
    static void aheadOfTheMinute() {
        // By draw 0 buyer 0 hears trick 1 first: it ousts buyer 1, who knows nothing, and spends it.
        SoldSeat seat = with("p1,p1");
        seat.changed(0, 1);
        seat.minutes(1);
        seat.seed(0);
        due("heard and used", seat.drift(1), 0);
        due("spent", seat.of(0, 2), 0);
    }

    // ---- promise 14: undo

    @Says(promise = 14, sentence = "NONE: none is known.")
    static void nothingToBeUndone() {
        due("a new object", new SoldSeat().undo(), NONE);
        SoldSeat seat = with("p1");
        due("a theatre", seat.undo(), NONE);
        seat.minutes(1);
        due("one", seat.undo(), 0);
        due("no second", seat.undo(), NONE);
        seat.seed(5);
        due("a seed is nothing to be undone", seat.undo(), NONE);
        due("and stays", seat.seed(1), 5);
        still("none", () -> {
            SoldSeat busy = busy();
            while (busy.undo() >= 0) {
                due("buyers", busy.count(0), 3);
            }
            return busy;
        }, SoldSeat::undo, NONE);
    }

    @Says(promise = 14, sentence = "(8 are known, older ones lost)")
    static void eightAreKnown() {
        for (int done = 1; done <= 20; done++) {
            SoldSeat seat = with("p1");
            for (int i = 0; i < done; i++) {
                seat.minutes(1);
            }
            int known = Math.min(done, 8);
            due("known of " + done, seat.count(6), known);
            for (int left = known - 1; left >= 0; left--) {
                due("left of " + done, seat.undo(), left);
                due("the minute", seat.count(1), done - known + left);
                due("seen", seat.of(0, 3), done - known + left);
            }
            due("no more of " + done, seat.undo(), NONE);
            due("the minute stays", seat.count(1), done - known);
        }
    }

    @Says(promise = 14, sentence = "THE SITTER, SAT, SEEN, what all know, who is HERE, TURNS, the MINUTE, THE DRAW "
        + "are as "
        + "ahead of it, whatever was told since")
    static void asAheadOfIt() {
        SoldSeat seat = behind(3, "p1:0,p2:1,p3:2");
        seat.seed(77);
        for (int done = 0; done < 7; done++) {
            Object ahead = Looks.now(seat);
            int known = seat.count(6);
            doOne(seat, done);
            seat.seed(done);
            due("to be undone of " + done, seat.undo(), known);
            due("of " + done + " all is as ahead", Looks.now(seat).equals(ahead) ? 1 : 0, 1);
        }
        due("the draw", seat.seed(1), 77);
    }

    private static void doOne(SoldSeat seat, int which) {
        switch (which) {
            case 0: seat.minutes(1); break;
            case 1: seat.learnt(2, 4); break;
            case 2: seat.sent(0); break;
            case 3: seat.sent(seat.count(2)); break;
            case 4: seat.called(); break;
            case 5: seat.changed(0, 2); break;
            default: seat.drift(1); break;
        }
        due("to be undone", seat.count(6), 4);
    }

    @Says(promise = 14, sentence = "a THEATRE, a new BUYER leave nothing to be UNDONE")
    static void nothingIsLeft() {
        SoldSeat seat = behind(9, "p1");
        due("a theatre", read(seat, "p1"), 1);
        due("nothing", seat.count(6), 0);
        due("none", seat.undo(), NONE);
        seat.minutes(9);
        due("a buyer", seat.buyer(0, 0, 0), 1);
        due("nothing", seat.count(6), 0);
        due("none", seat.undo(), NONE);
        due("still two", seat.count(0), 2);
        seat.minutes(1);
        due("done since", seat.undo(), 0);
        due("and no more", seat.undo(), NONE);
        seat.minutes(2);
        due("a refused theatre", seat.theatre(), -20);
        due("leaves them", seat.count(6), 2);
        due("a refused buyer", seat.buyer(5, 0, 0), BAD);
        due("leaves them", seat.count(6), 2);
    }

    // ---- promise 15: seed

    @Says(promise = 15, sentence = "BAD: below 0.")
    static void seeds() {
        SoldSeat seat = new SoldSeat();
        due("-1", seat.seed(-1), BAD);
        due("the least int", seat.seed(MIN), BAD);
        due("0", seat.seed(0), 1);
        due("the greatest int", seat.seed(MAX), 0);
        due("it was", seat.seed(0), MAX);
        still("-1", busy -> busy.seed(-1), BAD);
    }
}
