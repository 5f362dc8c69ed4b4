/** Boundaries of what is foretold: promises 16 to 21. */
final class ForetoldBounds extends Bounds {
    private static final String SIX_PLAIN = "p1,p1,p1,p1,p1,p1";

    private ForetoldBounds() {
    }

    // ---- promise 16: ahead

    @Says(promise = 16, sentence = "BAD.")
    static void aheadRefused() {
        SoldSeat seat = with("p1,p2");
        range("n", 0, 99, v -> seat.ahead(v, 0));
        range("n, of tricks", 0, 99, v -> seat.ahead(v, 1));
        range("what", 0, 1, v -> seat.ahead(1, v));
        still("n 100", busy -> busy.ahead(100, 0), BAD);
    }

    @Says(promise = 16, sentence = "FORETOLD from now (nothing is changed)")
    static void nothingIsChanged() {
        still("ahead", seat -> seat.ahead(99, 0));
        still("tricks ahead", seat -> seat.ahead(99, 1));
        still("seen", seat -> seat.seen(2, 99));
        still("first", seat -> seat.first(2));
        still("round", seat -> seat.round(0));
        still("turns", seat -> seat.turns(2, 40, 0));
        still("fair", seat -> seat.fair(40, 0));
        still("learn", seat -> seat.learn(0, 40, 0));
        still("pay", seat -> seat.pay(0, 40));
        still("send", seat -> seat.send(0, 40, 1));
        still("ousts", seat -> seat.ousts(0));
        still("safe", SoldSeat::safe);
        still("miss", seat -> seat.miss(0, 8, 5, 0));
        still("kinds by stubs", seat -> seat.stubs(0, 0, 0, 0, 3, 0));
        still("sets by stubs", seat -> seat.stubs(0, 0, 0, 0, 3, 1));
        still("gaps", seat -> seat.gaps(0, 0, 0, 3, 99, 0));
    }

    @Says(promise = 16, sentence = "behind n MINUTES (0 .. 99) who is THE SITTER (NONE: empty)")
    static void noneToNinetyNine() {
        SoldSeat seat = with("p5:0,p5:134");
        int[] sitters = {NONE, 0, 1, 0, 1, 1};
        for (int n = 0; n < sitters.length; n++) {
            due("behind " + n, seat.ahead(n, 0), sitters[n]);
        }
        due("behind 99", seat.ahead(99, 0), 1);
        due("empty, as nobody is there", new SoldSeat().ahead(99, 0), NONE);
        seat.sent(0);
        seat.sent(1);
        due("empty, as nobody is here", seat.ahead(99, 0), NONE);
        // Buyer 3 sits first behind 99 minutes (found by a search).
        SoldSeat late = behind(1, "f4:234,d9:023,m7:013,m2:023,p3:0134,m5:0234");
        due("behind 98", late.ahead(98, 0) == 3 ? 1 : 0, 0);
        due("behind 99", late.ahead(99, 0), 3);
    }

    @Says(promise = 16, sentence = "n MINUTES on: THE SITTER (what 0; NONE), TRICKS of all (1).")
    static void tricksOfAll() {
        SoldSeat seat = with("p5:0,p5:134");
        int[] tricks = {4, 4, 3, 2, 1, 1};
        for (int n = 0; n < tricks.length; n++) {
            due("behind " + n, seat.ahead(n, 1), tricks[n]);
        }
        due("behind 99", seat.ahead(99, 1), 1);
        due("nobody knows any", with("p1").ahead(99, 1), 0);
        SoldSeat all = with("p1:01234,p1:01234,p1:01234,p1:01234,p1:01234,p1:01234");
        due("all know all", all.ahead(99, 1), 30);
        all.sent(0);
        due("who went home, too", all.ahead(0, 1), 30);
        SoldSeat last = behind(9999, "p5:0,p5:134");
        due("beyond minute 9999", last.ahead(99, 1), 1);
    }

    // ---- promise 17: seen

    @Says(promise = 17, sentence = "BAD.")
    static void seenRefused() {
        SoldSeat seat = with("p1,p2");
        range("buyer", 0, 1, v -> seat.seen(v, 0));
        range("n", 0, 99, v -> seat.seen(1, v));
        still("buyer 3", busy -> busy.seen(3, 0), BAD);
        still("n 100", busy -> busy.seen(0, 100), BAD);
    }

    @Says(promise = 17, sentence = "How much one has SEEN behind n MINUTES.")
    static void seenWithWhatWasSeen() {
        SoldSeat seat = behind(3, "p1,p2");
        due("behind 0", seat.seen(0, 0), 3);
        due("behind 1", seat.seen(0, 1), 4);
        due("behind 99", seat.seen(0, 99), 102);
        due("who never sits", seat.seen(1, 99), 0);
    }

    // ---- promise 18: first

    @Says(promise = 18, sentence = "BAD.")
    static void firstRefused() {
        SoldSeat seat = with("p1,p2");
        range("buyer", 0, 1, seat::first);
        still("buyer 3", busy -> busy.first(3), BAD);
        still("buyer -1", busy -> busy.first(-1), BAD);
    }

    @Says(promise = 18, sentence = "FIRST of one: the first of 0 to 99 MINUTES behind which it is THE SITTER; none.")
    static void firstOfNoneToNinetyNine() {
        SoldSeat seat = with("p1,p2");
        due("behind 1", seat.first(0), 1);
        due("never", seat.first(1), NONE);
        seat.minutes(1);
        due("now", seat.first(0), 0);
        // Behind 100 minutes, and then behind 99 (found by a search).
        SoldSeat late = with("f4:234,d9:023,m7:013,m2:023,p3:0134,m5:0234");
        due("behind 100", late.first(3), NONE);
        late.minutes(1);
        due("behind 99", late.first(3), 99);
        late.minutes(1);
        due("behind 98", late.first(3), 98);
    }

    @Says(promise = 18, sentence = "FIRST; NONE.")
    static void neverHere() {
        SoldSeat seat = with("p1,p2");
        seat.sent(0);
        due("who is not here", seat.first(0), NONE);
        due("the other one", seat.first(1), 2);
    }

    // ---- promise 19: round

    private static void round(String what, SoldSeat seat, int which, int later) {
        due(what, seat.round(0), which);
        due(what + ", later by", seat.round(1), later);
    }

    @Says(promise = 19, sentence = "BAD.")
    static void roundRefused() {
        SoldSeat seat = with("p1");
        range("what", 0, 1, seat::round);
        still("what 2", busy -> busy.round(2), BAD);
        due("bad ahead of none", new SoldSeat().round(2), BAD);
        due("bad ahead of none", new SoldSeat().round(-1), BAD);
    }

    @Says(promise = 19, sentence = "ROUND: the first of 1 to 300 MINUTES behind which")
    static void oneToThreeHundred() {
        // Behind 301, and then behind 300 (found by a search).
        SoldSeat seat = behind(10, "m8:0124,d0:02,f4:01,d8:012,d2:12,m2:01234");
        round("behind 301", seat, NONE, NONE);
        seat.minutes(1);
        round("behind 300", seat, 300, 30);
        seat.minutes(1);
        round("behind 299", seat, 299, 30);
    }

    @Says(promise = 19, sentence = "how long it SAT (4 and more are alike), what all know, MINUTE left over by 5, "
        + "and whose TURN it is (its place) are as behind an earlier one (or as now)")
    static void whatComesRound() {
        // Behind 4 minutes sat 4 in minute 4; behind 9 as much in minute 9, 4 left over.
        SoldSeat one = with("p1");
        round("sat 4 and more", one, 9, 5);
        one.minutes(3);
        round("sat 3 is not sat 4", one, 6, 5);
        one.minutes(1);
        round("as now", one, 5, 5);
        SoldSeat empty = with("p1");
        empty.sent(0);
        round("the minute by 5, nobody sits", empty, 5, 5);
        round("places of two", with("p1,p1"), 14, 10);
        round("places of six", with(SIX_PLAIN), 34, 30);
        SoldSeat five = with("p1,p1,p1,p1,p1");
        round("places of five", five, 9, 5);
        // The friend ousts in minute 5, the plain one never: who sat 4 behind 4 is not who sat 4 behind 9.
        round("who sits", with("p1,f1"), 19, 10);
    }

    @Says(promise = 19, sentence = "who sits, how long it SAT (4 and more are alike), what all know")
    static void whatIsNotTakenForAnother() {
        // The friend ousts in minutes 5, 15, 25; the plain one comes back by a trick each time, till all are spent.
        round("two tricks less", with("p1:01,f1"), 39, 10);
        round("four tricks less", with("p1:1234,f1"), 59, 10);
        round("all tricks less", with("p1:01234,f1"), 69, 10);
        // Likewise, but once, and the friend is the last of three: it ousts in minutes 5 and 20.
        SoldSeat others = with("p1,p1:0,f1");
        others.sent(0);
        round("another than the first sits", others, 39, 15);
        // Nobody sits now; ten minutes later, of all else alike, one of the two friends has sat for one.
        for (int minute = 1; minute <= 6; minute += 5) {
            SoldSeat friends = behind(minute, "f1,f1");
            friends.called();
            round("nobody is not one who has just sat down", friends, 18, 10);
        }
    }

    @Says(promise = 19, sentence = "which; by how many it is later than that one; none (also without BUYERS)")
    static void withoutBuyers() {
        round("without buyers", new SoldSeat(), NONE, NONE);
        SoldSeat later = new SoldSeat();
        later.minutes(7);
        round("without buyers in minute 7", later, NONE, NONE);
    }

    @Says(promise = 19, sentence = "how many (1); NONE.")
    static void noneOfRound() {
        SoldSeat seat = behind(9, "m8:0124,d0:02,f4:01,d8:012,d2:12,m2:01234");
        round("behind 302", seat, NONE, NONE);
    }

    // ---- promise 20: turns

    private static void turns(String what, SoldSeat seat, int buyer, int n, int... wants) {
        for (int k = -1; k < wants.length - 1; k++) {
            due(what + ", k " + k, seat.turns(buyer, n, k), wants[k + 1]);
        }
        due(what + ", not so many", seat.turns(buyer, n, wants.length - 1), NONE);
    }

    @Says(promise = 20, sentence = "BAD: k below -1, too.")
    static void turnsRefused() {
        SoldSeat seat = with("p1,p2");
        range("buyer", 0, 1, v -> seat.turns(v, 1, -1));
        due("k -2", seat.turns(0, 1, -2), BAD);
        due("k of the least int", seat.turns(0, 1, MIN), BAD);
        due("k -1", seat.turns(0, 1, -1), 1);
        still("k -2", busy -> busy.turns(0, 1, -2), BAD);
        still("buyer 3", busy -> busy.turns(3, 1, -1), BAD);
        due("bad ahead of none: buyer", seat.turns(2, 1, 9), BAD);
        due("bad ahead of none: n", seat.turns(0, 41, 9), BAD);
    }

    @Says(promise = 20, sentence = "TURNS for one, n MINUTES (1 .. 40)")
    static void turnsOfOneToForty() {
        SoldSeat seat = with("p1,p2");
        range("n", 1, 40, v -> seat.turns(0, v, -1));
        turns("one minute", seat, 1, 1, 1, 1, 0);
        turns("40 minutes", seat, 1, 40, 40, 1, 0);
    }

    @Says(promise = 20, sentence = "TURNS: how much (k -1), who is in the k-th place (NONE: not so many).")
    static void notSoMany() {
        turns("a single one", with("p1"), 0, 5, 5, 0);
        turns("six", with(SIX_PLAIN), 3, 6, 6, 3, 0, 1, 2, 4, 5);
        due("k of the greatest int", with(SIX_PLAIN).turns(3, 6, MAX), NONE);
    }

    @Says(promise = 20, sentence = "of all ways in which places can be dealt anew the one by which it SEES most in "
        + "them, "
        + "of like ones the first (by who is in place 0, then 1, rising)")
    static void ofLikeOnesTheFirst() {
        // Whoever sits first sits all the time, so 5 others can be dealt as they like.
        turns("who is first already", with(SIX_PLAIN), 0, 40, 40, 0, 1, 2, 3, 4, 5);
        turns("who is last", with(SIX_PLAIN), 5, 40, 40, 5, 0, 1, 2, 3, 4);
        SoldSeat home = with("p1,p2,p3");
        home.sent(2);
        turns("who is not here sees nothing by any", home, 2, 9, 0, 0, 1, 2);
        turns("who was sent is dealt a place, too", home, 1, 9, 9, 1, 0, 2);
        SoldSeat later = behind(1, "p1,p2,p3");
        later.called();
        turns("in minute 1 place 1 comes first", later, 2, 9, 9, 0, 2, 1);
        due("what was seen is not counted", behind(9, "p1,p2").turns(0, 2, -1), 2);
        due("nor of who sits no more", behind(9, "p1,f2").turns(0, 1, -1), 0);
        // The last of all ways (found by a search).
        turns("the last way", with("f4:134,g6:2,g2:013,f3:0124,f6:0,g7:123"), 5, 18, 7, 5, 4, 3, 2, 1, 0);
    }

    // ---- promise 21: fair

    private static void fair(String what, SoldSeat seat, int n, int... wants) {
        for (int k = -1; k < wants.length - 1; k++) {
            due(what + ", k " + k, seat.fair(n, k), wants[k + 1]);
        }
        due(what + ", not so many", seat.fair(n, wants.length - 1), NONE);
    }

    @Says(promise = 21, sentence = "BAD: k below -1, too.")
    static void fairRefused() {
        SoldSeat seat = with("p1,p2");
        due("k -2", seat.fair(1, -2), BAD);
        due("k of the least int", seat.fair(1, MIN), BAD);
        due("k -1", seat.fair(1, -1), 1);
        still("k -2", busy -> busy.fair(1, -2), BAD);
        still("n 0", busy -> busy.fair(0, -1), BAD);
        due("bad ahead of none: n", new SoldSeat().fair(0, -1), BAD);
        due("bad ahead of none: n", new SoldSeat().fair(41, -1), BAD);
        due("bad ahead of none: k", new SoldSeat().fair(1, -2), BAD);
    }

    @Says(promise = 21, sentence = "FAIR for n MINUTES (1 .. 40)")
    static void fairOfOneToForty() {
        SoldSeat seat = with("p1,p2");
        range("n", 1, 40, v -> seat.fair(v, -1));
        fair("one minute", seat, 1, 1, 0, 1);
        fair("40 minutes", seat, 40, 40, 0, 1);
    }

    @Says(promise = 21, sentence = "likewise that by which the most and the least that one of all SEES in them are "
        + "least "
        + "apart: how far; who is in the k-th place; none (no BUYERS)")
    static void leastApart() {
        fair("a single one", with("p1"), 40, 0, 0);
        due("no buyers", new SoldSeat().fair(1, -1), NONE);
        due("no buyers", new SoldSeat().fair(40, 0), NONE);
        // Each ousts the one ahead: by 0, 2, 1 all see one minute.
        fair("none apart", with("p5:3,p5:2,p5:1"), 3, 0, 0, 2, 1);
        SoldSeat home = with("p1,p2");
        home.sent(1);
        fair("nobody sees, if who was sent comes first", home, 1, 0, 1, 0);
        fair("who was sent sees least", home, 2, 1, 1, 0);
        SoldSeat late = with("p1,p2");
        late.sent(0);
        fair("the first way is better than the last", late, 4, 3, 0, 1);
        due("what was seen is not counted", behind(9, "p1,p2").fair(3, -1), 3);
        SoldSeat nobody = behind(3, "p1,p2");
        nobody.sent(0);
        nobody.sent(1);
        fair("nobody is here", nobody, 40, 0, 0, 1);
        // The last of all ways (found by a search).
        fair("the last way", with("f7:04,g9:1234,p3:01,f6:12,g9:234,d3:0"), 18, 0, 5, 4, 3, 2, 1, 0);
    }

    @Says(promise = 21, sentence = "FAIR: how far (k -1), who is in the k-th place (NONE: not so many); NONE.")
    static void fairWithoutAKthPlace() {
        due("k of the greatest int", with("p1").fair(1, MAX), NONE);
        fair("six", with(SIX_PLAIN), 6, 6, 0, 1, 2, 3, 4, 5);
        due("no buyers, no place", new SoldSeat().fair(1, 0), NONE);
    }
}
