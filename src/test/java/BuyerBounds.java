/** Boundaries of a new object, of buyers, turns and counts: promises 1 to 4, 7. */
final class BuyerBounds extends Bounds {
    private BuyerBounds() {
    }

    @Says(promise = 1, sentence = "A seat, nobody.")
    static void aNewObjectIsEmpty() {
        SoldSeat seat = new SoldSeat();
        int[] counts = {0, 0, NONE, 0, NONE, 0, 0, 0};
        for (int what = 0; what < counts.length; what++) {
            due("count " + what, seat.count(what), counts[what]);
        }
        due("place 0", seat.turn(0), BAD);
        due("of", seat.of(0, 0), BAD);
        due("learnt", seat.learnt(0, 0), BAD);
        due("sent", seat.sent(0), BAD);
        due("called", seat.called(), NOT);
        due("changed", seat.changed(0, 1), BAD);
        due("undo", seat.undo(), NONE);
        due("ahead", seat.ahead(99, 0), NONE);
        due("tricks ahead", seat.ahead(99, 1), 0);
        due("seen", seat.seen(0, 0), BAD);
        due("first", seat.first(0), BAD);
        due("turns", seat.turns(0, 1, -1), BAD);
        due("learn", seat.learn(0, 1, 0), BAD);
        due("pay", seat.pay(0, 0), BAD);
        due("send", seat.send(0, 0, 0), BAD);
        due("ousts", seat.ousts(0), BAD);
        due("safe", seat.safe(), 0);
        due("miss", seat.miss(0, 0, 0, 0), BAD);
        due("restore", seat.restore(), NONE);
        due("stubs", seat.stubs(0, 0, 0, 0, 1, 0), BAD);
        due("theatre", seat.theatre(), -20);
    }

    @Says(promise = 1, sentence = "An object is used for at most 512 calls after it has been made")
    static void the512thCallIsAnswered() {
        SoldSeat seat = new SoldSeat();
        due("call 1", seat.buyer(0, 0, 0), 0);
        for (int call = 2; call < 512; call += 2) {
            due("call " + call, seat.learnt(0, 4), 16);
            due("call " + (call + 1), seat.undo(), 0);
        }
        due("call 512", seat.learnt(0, 4), 16);
    }

    @Says(promise = 1, sentence = "BAD -1 (a number is not as told, there is no such thing), NOT -2 (as told), "
        + "FULL -3, "
        + "NONE -4 (as told), CAST -12 (of SHEETS another LANE); what the machine finds: NULL -11, INDEX -13, SIZE -14")
    static void theConstants() {
        int[] got = {SoldSeat.BAD, SoldSeat.NOT, SoldSeat.FULL, SoldSeat.NONE, SoldSeat.CAST, SoldSeat.NULL,
            SoldSeat.INDEX, SoldSeat.SIZE};
        int[] want = {-1, -2, -3, -4, -12, -11, -13, -14};
        for (int i = 0; i < want.length; i++) {
            due("constant " + i, got[i], want[i]);
        }
    }

    // ---- promise 2: buyer

    @Says(promise = 2, sentence = "BAD;")
    static void buyersThatCannotBe() {
        range("kind", 0, 4, v -> new SoldSeat().buyer(v, 50, 3));
        still("kind 5", seat -> seat.buyer(5, 0, 0), BAD);
        still("paid 100", seat -> seat.buyer(0, 100, 0), BAD);
        still("tricks 32", seat -> seat.buyer(0, 0, 32), BAD);
        still("all at once", seat -> seat.buyer(-1, -1, -1), BAD);
    }

    @Says(promise = 2, sentence = "PAID 0 .. 99")
    static void paid() {
        range("paid", 0, 99, v -> new SoldSeat().buyer(1, v, 3));
        SoldSeat seat = new SoldSeat();
        seat.buyer(0, 0, 0);
        seat.buyer(0, 99, 0);
        due("the least", seat.of(0, 1), 0);
        due("the most", seat.of(1, 1), 99);
    }

    @Says(promise = 2, sentence = "know TRICKS (a set of 0 .. 4)")
    static void tricks() {
        range("tricks", 0, 31, v -> new SoldSeat().buyer(1, 50, v));
        SoldSeat seat = new SoldSeat();
        seat.buyer(0, 0, 0);
        seat.buyer(0, 0, 31);
        due("no tricks", seat.of(0, 2), 0);
        due("all tricks", seat.of(1, 2), 31);
        due("of both", seat.count(7), 5);
    }

    @Says(promise = 2, sentence = "Sets are bits.")
    static void setsAreBits() {
        SoldSeat seat = new SoldSeat();
        for (int trick = 0; trick < 5; trick++) {
            seat.buyer(0, 0, 1 << trick);
            due("knows " + trick, seat.learnt(trick, trick), NOT);
        }
        due("here", seat.count(5), 31);
        due("the first went home", seat.sent(0), 30);
        due("the last went home", seat.sent(4), 14);
    }

    @Says(promise = 2, sentence = "BUYERS 0 .. 5, as they come, are of a KIND")
    static void numbersOfBuyers() {
        SoldSeat seat = new SoldSeat();
        for (int b = 0; b < 6; b++) {
            due("ahead of it", seat.of(b, 0), BAD);
            due("number", seat.buyer(b % 5, b, b), b);
            due("how many", seat.count(0), b + 1);
            due("its kind", seat.of(b, 0), b % 5);
            due("its own", seat.of(b, 1), b);
        }
        due("no buyer 6", seat.of(6, 0), BAD);
    }

    @Says(promise = 2, sentence = "FULL: 6.")
    static void theSeventhIsRefused() {
        SoldSeat five = with("p1,p2,p3,p4,p5");
        due("the sixth", five.buyer(4, 99, 31), 5);
        due("the seventh", five.buyer(0, 0, 0), FULL);
        due("the seventh again", five.buyer(4, 99, 31), FULL);
        still("the seventh", () -> behind(1, "p1:0,f2:1,m3:2,d4:3,g5:4,p6"), seat -> seat.buyer(0, 0, 0), FULL);
        SoldSeat home = with("p1,p2,p3,p4,p5,p6");
        home.sent(3);
        due("who was sent is still one of six", home.buyer(0, 0, 0), FULL);
    }

    @Says(promise = 2, sentence = "Answers below 0, of several the first that a call names")
    static void badAheadOfFull() {
        SoldSeat seat = with("p1,p2,p3,p4,p5,p6");
        due("kind", seat.buyer(5, 0, 0), BAD);
        due("paid", seat.buyer(0, -1, 0), BAD);
        due("tricks", seat.buyer(0, 0, 32), BAD);
    }

    @Says(promise = 2, sentence = "A BUYER (in the last place): the number.")
    static void inTheLastPlace() {
        SoldSeat seat = with("p1,p2");
        seat.changed(0, 1);
        due("number", seat.buyer(0, 0, 0), 2);
        due("the last place", seat.turn(2), 2);
        due("its place", seat.of(2, 5), 2);
        due("place 0 stays", seat.turn(0), 1);
        due("place 1 stays", seat.turn(1), 0);
        due("no place behind it", seat.turn(3), BAD);
    }

    // ---- promise 3: of

    @Says(promise = 3, sentence = "BAD.")
    static void noSuchBuyerNoSuchThing() {
        SoldSeat two = with("p1,p2");
        range("buyer of two", 0, 1, v -> two.of(v, 6));
        SoldSeat six = with("p1,p2,p3,p4,p5,p6");
        range("buyer of six", 0, 5, v -> six.of(v, 5));
        range("what", 0, 6, v -> two.of(1, v));
        due("neither", two.of(2, 7), BAD);
    }

    @Says(promise = 3, sentence = "they are HERE (at first), or were SENT home")
    static void hereAtFirst() {
        SoldSeat seat = with("p1,p2");
        due("at first", seat.of(1, 4), 1);
        seat.sent(1);
        due("sent home", seat.of(1, 4), 0);
        due("the other one", seat.of(0, 4), 1);
        seat.buyer(0, 0, 0);
        due("who comes later", seat.of(2, 4), 1);
        due("a set", seat.count(5), 5);
        read(seat, "p1,p2");
        due("in a theatre anew", seat.of(1, 4), 1);
    }

    @Says(promise = 3, sentence = "Each has SEEN so many MINUTES (0 at first).")
    static void seenNothingAtFirst() {
        SoldSeat seat = with("p1");
        due("at first", seat.of(0, 3), 0);
        seat.minutes(40);
        due("behind 40", seat.of(0, 3), 40);
        seat.seen(0, 99);
        seat.buyer(0, 0, 0);
        due("who comes later", seat.of(1, 3), 0);
        seat.minutes(1);
        due("who did not sit", seat.of(1, 3), 0);
        due("who sits", seat.of(0, 3), 41);
    }

    @Says(promise = 3, sentence = "4 whether HERE (1, 0), 5 its place in TURNS, 6 whether it MAY SIT now, "
        + "whosever TURN it is (1, 0)")
    static void whosesoeverTurn() {
        SoldSeat seat = behind(1, "p1,p2:0,p3:0");
        due("turn", seat.count(4), 1);
        due("whose turn it is", seat.of(1, 6), 1);
        due("whose turn it is not", seat.of(2, 6), 1);
        seat.changed(0, 2);
        due("the first place", seat.of(2, 5), 0);
        due("the last place", seat.of(0, 5), 2);
    }

    @Says(promise = 3, sentence = "Whether a BUYER (HERE, not THE SITTER) MAY SIT, THE SEAT not being empty")
    static void notTheSitterNotWhoIsNotHere() {
        SoldSeat friend = behind(5, "f1:0");
        due("a sitting friend in minute 5", friend.of(0, 6), 0);
        SoldSeat ghost = behind(1, "g1,g1");
        due("a sitting ghost without tricks", ghost.of(0, 6), 0);
        due("another ghost", ghost.of(1, 6), 1);
        ghost.sent(1);
        due("another ghost, not here", ghost.of(1, 6), 0);
    }

    @Says(promise = 3, sentence = "THE SEAT being empty, whoever is HERE MAY SIT.")
    static void anEmptySeat() {
        SoldSeat seat = with("p0,f0,m0,d0,g0");
        seat.minutes(1);
        seat.called();
        for (int b = 0; b < 5; b++) {
            due("kind " + b, seat.of(b, 6), 1);
        }
        seat.sent(2);
        due("who is not here", seat.of(2, 6), 0);
        due("whose turn it is sits down", seat.minutes(1), 1);
    }

    /** Whether buyer 1 may sit behind one minute, while buyer 0 sits. */
    private static void maySit(String text, int want) {
        SoldSeat seat = behind(1, text);
        due("sitter of " + text, seat.count(2), 0);
        due(text, seat.of(1, 6), want);
    }

    @Says(promise = 3, sentence = "A TRICK is COUNTERED, if THE SITTER knows the one that is 1 more (of 4: 0).")
    static void countered() {
        for (int trick = 0; trick < 5; trick++) {
            for (int known = 0; known < 5; known++) {
                maySit("p1:" + known + ",p1:" + trick, known == (trick + 1) % 5 ? 0 : 1);
            }
        }
    }

    @Says(promise = 3, sentence = "0 PLAIN: it knows a TRICK that is not COUNTERED.")
    static void plain() {
        maySit("p1,p9", 0);
        maySit("p1,p9:4", 1);
        maySit("p1:0,p9:4", 0);
        maySit("p1:0,p9:34", 1);
        maySit("p1:01234,p9:01234", 0);
        maySit("p1:0123,p9:01234", 1);
        maySit("p1:1234,p9:01234", 1);
        due("a plain one in minute 5", behind(5, "p1:0,p9:4").of(1, 6), 0);
    }

    @Says(promise = 3, sentence = "or the MINUTE is a multiple of 5 (0, too)")
    static void friendlyMinutes() {
        // The friend's turns are minutes 1, 6, 11: it never comes to sit by this.
        SoldSeat seat = with("p5:1,f5:0,p5,p5,p5");
        due("minute 0, were it the sitter", seat.ousts(1), 29);
        seat.minutes(1);
        due("minute 1, were it the sitter", seat.ousts(1), 28);
        for (int minute = 1; minute <= 16; minute++) {
            due("minute " + minute, seat.of(1, 6), minute % 5 == 0 ? 1 : 0);
            due("the sitter stays", seat.minutes(1), 0);
        }
        pass(seat, 9995 - 17);
        due("minute 9995", seat.of(1, 6), 1);
        seat.minutes(4);
        due("minute 9999", seat.of(1, 6), 0);
    }

    @Says(promise = 3, sentence = "2 MEEK (below PLAIN): as PLAIN, and THE SITTER has SAT 4 MINUTES or more.")
    static void meekPatience() {
        SoldSeat seat = with("p5:1,m5:1,m5:0,p5,p5,p5");
        for (int sat = 1; sat <= 6; sat++) {
            due("the sitter stays", seat.minutes(1), 0);
            due("sat", seat.count(3), sat);
            due("sat " + sat, seat.of(1, 6), sat >= 4 ? 1 : 0);
            due("sat " + sat + ", countered", seat.of(2, 6), 0);
        }
        seat.minutes(2);
        due("ousted", seat.count(2), 1);
        due("sat anew", seat.count(3), 1);
        due("a new sitter", seat.of(2, 6), 0);
        SoldSeat late = behind(5, "p5:1,m5:0,p5");
        due("a multiple of 5 is nothing to the meek", late.of(1, 6), 0);
    }

    @Says(promise = 3, sentence = "or THE SITTER PAID less than she did")
    static void duchessPrices() {
        maySit("p0,d0", 0);
        maySit("p0,d1", 1);
        maySit("p50,d49", 0);
        maySit("p50,d50", 0);
        maySit("p50,d51", 1);
        maySit("p98,d99", 1);
        maySit("p99,d99", 0);
        maySit("p0,p99", 0);
        maySit("p0:1,f99:0", 0);
        due("as a friend in minute 5", behind(5, "p9:1,d9:0").of(1, 6), 1);
        due("as a friend in minute 4", behind(4, "p9:1,d9:0").of(1, 6), 0);
    }

    @Says(promise = 3, sentence = "or THE SITTER knows no TRICKS")
    static void ghostsOfTheTrickless() {
        maySit("p9,g0", 1);
        maySit("p9:0,g0", 0);
        maySit("p9:4,g0:0", 0);
        maySit("p9,m0", 0);
        due("as the meek, sat 4", behind(4, "p9:4,g0:0").of(1, 6), 1);
        due("as the meek, sat 3", behind(3, "p9:4,g0:0").of(1, 6), 0);
        due("as the meek, countered", behind(4, "p9:4,g0:3").of(1, 6), 0);
    }

    // ---- promise 4: turn

    @Says(promise = 4, sentence = "BAD.")
    static void places() {
        due("no place without buyers", new SoldSeat().turn(0), BAD);
        for (int people = 1; people <= 6; people++) {
            SoldSeat seat = with("p1,p1,p1,p1,p1,p1".substring(0, 3 * people - 1));
            range("place of " + people, 0, people - 1, seat::turn);
            due("the first place", seat.turn(0), 0);
            due("the last place", seat.turn(people - 1), people - 1);
        }
    }

    @Says(promise = 4, sentence = "(places 0 and on, as they came at first)")
    static void placesAtFirst() {
        SoldSeat seat = new SoldSeat();
        for (int b = 0; b < 6; b++) {
            seat.buyer(5 - b > 4 ? 0 : 5 - b, 9 - b, 0);
        }
        for (int place = 0; place < 6; place++) {
            due("place " + place, seat.turn(place), place);
        }
        seat.sent(0);
        due("who was sent keeps the place", seat.turn(0), 0);
    }

    // ---- promise 7: count

    @Says(promise = 7, sentence = "BAD.")
    static void counts() {
        range("what", 0, 7, new SoldSeat()::count);
        range("what", 0, 7, busy()::count);
    }

    @Says(promise = 7, sentence = "2 THE SITTER (NONE), 3 how long it SAT (0: nobody)")
    static void nobodySits() {
        SoldSeat seat = with("p1");
        due("nobody", seat.count(2), NONE);
        due("nobody sat", seat.count(3), 0);
        seat.minutes(1);
        due("buyer 0", seat.count(2), 0);
        due("sat", seat.count(3), 1);
        seat.called();
        due("nobody again", seat.count(2), NONE);
        due("nobody sat", seat.count(3), 0);
    }

    @Says(promise = 7, sentence = "THE SEAT is empty at first")
    static void emptyAtFirst() {
        SoldSeat seat = new SoldSeat();
        due("without buyers", seat.count(2), NONE);
        seat.minutes(3);
        due("nobody comes", seat.count(2), NONE);
        seat.buyer(0, 0, 0);
        due("a buyer is not yet a sitter", seat.count(2), NONE);
        seat.minutes(1);
        due("now it is", seat.count(2), 0);
    }

    @Says(promise = 7, sentence = "who sits in it is THE SITTER, has SAT so many MINUTES without a break")
    static void withoutABreak() {
        SoldSeat seat = behind(7, "p1");
        due("sat", seat.count(3), 7);
        seat.called();
        seat.minutes(1);
        due("the same one anew", seat.count(3), 1);
        due("seen goes on", seat.of(0, 3), 8);
    }

    @Says(promise = 7, sentence = "4 whose TURN it is (NONE: no BUYERS)")
    static void whoseTurn() {
        SoldSeat seat = new SoldSeat();
        due("nobody's", seat.count(4), NONE);
        seat.minutes(7);
        due("nobody's in minute 7", seat.count(4), NONE);
        seat.buyer(0, 0, 0);
        due("the only one's", seat.count(4), 0);
    }

    @Says(promise = 7, sentence = "TURNS: in MINUTE t (0 at first) it is the TURN of the BUYER who is in the place "
        + "that is t left over by how many there are")
    static void turnsComeRound() {
        for (int people = 1; people <= 6; people++) {
            SoldSeat seat = with("p1,p1,p1,p1,p1,p1".substring(0, 3 * people - 1));
            for (int minute = 0; minute <= 2 * people; minute++) {
                due("minute", seat.count(1), minute);
                due("of " + people + " in minute " + minute, seat.count(4), minute % people);
                seat.minutes(1);
            }
        }
        SoldSeat seat = behind(3, "p1,p2");
        due("minute 3 of two", seat.count(4), 1);
        seat.buyer(0, 0, 0);
        due("minute 3 of three", seat.count(4), 0);
        seat.changed(0, 2);
        due("whoever is in place 0", seat.count(4), 2);
        seat.sent(2);
        due("here or not", seat.count(4), 2);
        SoldSeat last = behind(9999, "p1,p2,p3,p4,p5,p6");
        due("minute 9999 of six", last.count(4), 3);
    }

    @Says(promise = 7, sentence = "5 who is HERE (a set), 6 what may be UNDONE, 7 how many TRICKS all know together")
    static void emptyAndFullCounts() {
        SoldSeat seat = with("p1:01234,p1:01234,p1:01234,p1:01234,p1:01234,p1:01234");
        due("all here", seat.count(5), 63);
        due("nothing to be undone", seat.count(6), 0);
        due("all tricks", seat.count(7), 30);
        for (int b = 0; b < 6; b++) {
            seat.sent(b);
            due("to be undone", seat.count(6), b + 1);
        }
        due("nobody here", seat.count(5), 0);
        due("those who went home know them still", seat.count(7), 30);
        seat.minutes(2);
        due("eight", seat.count(6), 8);
        seat.minutes(1);
        due("no more than eight", seat.count(6), 8);
    }
}
