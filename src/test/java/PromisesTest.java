/**
 * Each promise of the document by itself: ordinary inputs, edges, wrong inputs; what is due was worked out by
 * hand, but for edges that only a search finds (they say so), whose answers the plain model gave.
 */
public final class PromisesTest {
    private static final int BAD = -1, NOT = -2, FULL = -3, NONE = -4, NULL = -11, CAST = -12, INDEX = -13, SIZE = -14;
    private static final Checks CHECKS = new Checks("PromisesTest");

    public static void main(String[] args) {
        promise1NewObject();
        promise2Buyer();
        promise3Of();
        promise3MaySitByKind();
        promise4Turn();
        promise5Type();
        promise6Theatre();
        promise6Faults();
        promise7Count();
        promise8Minutes();
        promise8Spending();
        promise9Learnt();
        promise10Sent();
        promise11Called();
        promise12Changed();
        promise13Drift();
        promise14Undo();
        promise15Seed();
        promise16Ahead();
        promise17Seen();
        promise18First();
        promise19Round();
        promise20Turns();
        promise21Fair();
        promise21FairWithSome();
        promise22Learn();
        promise23Pay();
        promise24Send();
        promise25Ousts();
        promise26Safe();
        promise27Miss();
        promise28And29ImageRestore();
        promise30Stubs();
        promise31Gaps();
        promise32Film();
        promise33Sheet();
        promise34Drop();
        promise35Item();
        promise36Copy();
        CHECKS.end();
    }

    private static void due(String what, long got, long want) {
        CHECKS.due(what, got, want);
    }

    private static int read(SoldSeat seat, String text) {
        for (char letter : text.toCharArray()) {
            seat.type(letter);
        }
        return seat.theatre();
    }

    private static SoldSeat with(String text) {
        SoldSeat seat = new SoldSeat();
        int got = read(seat, text);
        if (got < 1) due("theatre " + text, got, 1);
        return seat;
    }

    private static void promise1NewObject() {
        SoldSeat seat = new SoldSeat();
        int[] counts = {0, 0, NONE, 0, NONE, 0, 0, 0};
        for (int what = 0; what < counts.length; what++) {
            due("1 count " + what, seat.count(what), counts[what]);
        }
        due("1 no buyer", seat.of(0, 0), BAD);
        due("1 no place", seat.turn(0), BAD);
        due("1 nothing to undo", seat.undo(), NONE);
        due("1 no image", seat.restore(), NONE);
        due("1 nobody is safe", seat.safe(), 0);
        for (int sheet = 0; sheet < 4; sheet++) {
            due("1 sheet " + sheet, seat.drop(sheet), NULL);
        }
        due("1 an empty tape", seat.theatre(), -20);
        due("1 the draw", seat.seed(5), 1);
    }

    private static void promise2Buyer() {
        SoldSeat seat = new SoldSeat();
        due("2 kind", seat.buyer(-1, 0, 0), BAD);
        due("2 kind", seat.buyer(5, 0, 0), BAD);
        due("2 paid", seat.buyer(0, -1, 0), BAD);
        due("2 paid", seat.buyer(0, 100, 0), BAD);
        due("2 tricks", seat.buyer(0, 0, -1), BAD);
        due("2 tricks", seat.buyer(0, 0, 32), BAD);
        due("2 none came", seat.count(0), 0);
        due("2 the first", seat.buyer(4, 99, 31), 0);
        due("2 kind kept", seat.of(0, 0), 4);
        due("2 paid kept", seat.of(0, 1), 99);
        due("2 tricks kept", seat.of(0, 2), 31);
        due("2 seen nothing", seat.of(0, 3), 0);
        due("2 here", seat.of(0, 4), 1);
        due("2 the second", seat.buyer(0, 0, 0), 1);
        seat.changed(0, 1);
        due("2 may be undone", seat.count(6), 1);
        due("2 refused", seat.buyer(0, 0, 99), BAD);
        due("2 may still be undone", seat.count(6), 1);
        seat.minutes(3);
        due("2 the third, later", seat.buyer(1, 1, 1), 2);
        due("2 nothing to undo", seat.count(6), 0);
        due("2 in the last place", seat.turn(2), 2);
        due("2 the others stay", seat.turn(0), 1);
        due("2 the minute stays", seat.count(1), 3);
        due("2 the sitter stays", seat.count(2), 0);
        for (int b = 3; b < 6; b++) {
            due("2 more", seat.buyer(2, 2, 2), b);
        }
        seat.minutes(1);
        due("2 full", seat.buyer(0, 0, 0), FULL);
        due("2 bad ahead of full", seat.buyer(0, 100, 0), BAD);
        due("2 full leaves what may be undone", seat.count(6), 1);
        due("2 six", seat.count(0), 6);
    }

    private static void promise3Of() {
        SoldSeat seat = with("p20:03,d7:124");
        int[][] wants = {{0, 20, 9, 0, 1, 0, 1}, {3, 7, 22, 0, 1, 1, 1}};
        for (int b = 0; b < 2; b++) {
            for (int what = 0; what < 7; what++) {
                due("3 of " + b + " " + what, seat.of(b, what), wants[b][what]);
            }
        }
        due("3 buyer", seat.of(-1, 0), BAD);
        due("3 buyer", seat.of(2, 0), BAD);
        due("3 buyer", seat.of(Integer.MAX_VALUE, 0), BAD);
        due("3 what", seat.of(0, -1), BAD);
        due("3 what", seat.of(0, 7), BAD);
        seat.changed(0, 1);
        due("3 its place", seat.of(0, 5), 1);
        due("3 its place", seat.of(1, 5), 0);
        seat.minutes(1);
        due("3 the sitter may not", seat.of(1, 6), 0);
        due("3 seen", seat.of(1, 3), 1);
        seat.sent(0);
        due("3 not here", seat.of(0, 4), 0);
        due("3 who is not here may not", seat.of(0, 6), 0);
        seat.called();
        due("3 not into an empty seat, either", seat.of(0, 6), 0);
        due("3 who was called may", seat.of(1, 6), 1);
    }

    /** The sitter is buyer 0 behind n minutes; whether buyer 1 may sit. */
    private static void maySit(String text, int n, int want) {
        SoldSeat seat = with(text);
        seat.minutes(n);
        due("3 sitter of " + text, seat.count(2), 0);
        due("3 may sit " + text + " behind " + n, seat.of(1, 6), want);
    }

    private static void promise3MaySitByKind() {
        maySit("p5:0,p5:0", 1, 1);
        maySit("p5:1,p5:0", 1, 0);
        maySit("p5:2,p5:1", 1, 0);
        maySit("p5:4,p5:3", 1, 0);
        maySit("p5:0,p5:4", 1, 0);
        maySit("p5:0,p5:3", 1, 1);
        maySit("p5:1,p5:03", 1, 1);
        maySit("p5,p5", 1, 0);
        maySit("p5:12,p9:01", 5, 0);
        maySit("p5:1,f5:0", 4, 0);
        maySit("p5:1,f5:0", 5, 1);
        maySit("p5:1,f5", 1, 0);
        maySit("p5:1,f5:1", 1, 1);
        maySit("p5:1,f6:0", 1, 0);
        maySit("p5:1,m5:1", 3, 0);
        maySit("p5:1,m5:1", 4, 1);
        maySit("p5:1,m5:0", 4, 0);
        maySit("p5:1,m5:0", 5, 0);
        maySit("p5,m6", 1, 0);
        maySit("p5:1,d6:0", 1, 1);
        maySit("p5:1,d5:0", 1, 0);
        maySit("p5:1,d4:0", 1, 0);
        maySit("p5:1,d4:0", 5, 1);
        maySit("p5:1,d4:1", 1, 1);
        maySit("p5,g4", 1, 1);
        maySit("p5:1,g9:1", 1, 0);
        maySit("p5:1,g9:1", 4, 1);
        maySit("p5:1,g9:0", 5, 0);
        SoldSeat seat = with("f1,f2,m1");
        due("3 an empty seat", seat.of(2, 6), 1);
        seat.minutes(1);
        seat.called();
        due("3 an empty seat again", seat.of(2, 6), 1);
    }

    private static void promise4Turn() {
        SoldSeat seat = with("p1,p2,p3");
        for (int place = 0; place < 3; place++) {
            due("4 turn", seat.turn(place), place);
        }
        seat.changed(0, 2);
        due("4 changed", seat.turn(0), 2);
        due("4 changed", seat.turn(1), 1);
        due("4 changed", seat.turn(2), 0);
        seat.sent(1);
        due("4 who was sent keeps the place", seat.turn(1), 1);
        due("4 place", seat.turn(-1), BAD);
        due("4 place", seat.turn(3), BAD);
        due("4 place", seat.turn(Integer.MIN_VALUE), BAD);
    }

    private static void promise5Type() {
        SoldSeat seat = new SoldSeat();
        due("5 letter", seat.type(31), BAD);
        due("5 letter", seat.type(127), BAD);
        due("5 letter", seat.type(-1), BAD);
        due("5 letter", seat.type(65536 + 'p'), BAD);
        due("5 first", seat.type(32), 1);
        due("5 second", seat.type(126), 2);
        for (int n = 3; n <= 70; n++) {
            due("5 more", seat.type('p'), n);
        }
        due("5 full", seat.type('p'), FULL);
        due("5 bad ahead of full", seat.type(127), BAD);
        due("5 read", seat.theatre(), -21);
        due("5 empty then", seat.type('p'), 1);
        due("5 the full one is not read again", seat.theatre(), -21);
        StringBuilder text = new StringBuilder("p1");
        while (text.length() < 70) {
            text.append(' ');
        }
        due("5 a full tape is read", read(seat, text.toString()), 1);
    }

    private static void promise6Theatre() {
        SoldSeat seat = new SoldSeat();
        due("6 all kinds", read(seat, "p0,f9:0,m10:12,d99:01234,g05:4,p00:3"), 6);
        int[][] wants = {{0, 0, 0}, {1, 9, 1}, {2, 10, 6}, {3, 99, 31}, {4, 5, 16}, {0, 0, 8}};
        for (int b = 0; b < 6; b++) {
            for (int what = 0; what < 3; what++) {
                due("6 of " + b + " " + what, seat.of(b, what), wants[b][what]);
            }
            due("6 turn " + b, seat.turn(b), b);
        }
        due("6 the tape is empty", seat.type('x'), 1);
        seat.theatre();
        seat.seed(77);
        seat.changed(0, 5);
        seat.minutes(3);
        seat.sent(4);
        // What was foretold last must not be left in what is read.
        seat.seen(0, 9);
        due("6 fewer", read(seat, "g1:3,f2"), 2);
        due("6 minute", seat.count(1), 0);
        due("6 the seat is empty", seat.count(2), NONE);
        due("6 nobody sat", seat.count(3), 0);
        due("6 all here", seat.count(5), 3);
        due("6 nothing to undo", seat.count(6), 0);
        due("6 tricks", seat.count(7), 1);
        due("6 no third", seat.of(2, 0), BAD);
        due("6 turns anew", seat.turn(0), 0);
        due("6 nobody has seen", seat.of(0, 3), 0);
        due("6 the draw stays", seat.seed(1), 77);
        due("6 blanks", read(seat, "  d 9 :0 1  4 , p 12 "), 2);
        due("6 blanks", seat.of(0, 1), 9);
        due("6 blanks", seat.of(0, 2), 19);
        due("6 blanks", seat.of(1, 1), 12);
        due("6 blanks behind all tricks", read(seat, "p1:01234 ,f2:4 "), 2);
        due("6 blanks behind all tricks", seat.of(0, 2), 31);
        seat.seen(0, 9);
        read(seat, "p1");
        seat.buyer(0, 0, 0);
        due("6 nobody has seen", seat.of(1, 3), 0);
    }

    private static void promise6Faults() {
        SoldSeat seat = with("p7:2,f8");
        seat.minutes(2);
        String[] texts = {"", "   ", "x", "P1", " x", "p", "p  ", "px", "p:1", "p1x", "p100", "p1 2", "p1 23", "p-1",
            "p1:", "p1: ", "p1:5", "p1:x", "p1:00", "p1:10", "p1:0 0", "p1:012345", "p1:0:", "p1,", "p1, ", "p1,,",
            "p1;f2", "p1 f2", ",", ":", "1", "p1,p2,p3,p4,p5,p6,", "p1,p2,p3,p4,p5,p6,p7", "p1,p2,p3,p4,p5,p6 , ",
            "p1,p2,p3,p4,p5,p6x", "p1,x2", "p1:4,2", "p1:4 ,g", "p1::", "p1:,"};
        int[] places = {0, 3, 0, 0, 1, 1, 3, 1, 1, 2, 3, 3, 3, 1,
            3, 4, 3, 3, 4, 4, 5, 8, 4, 3, 4, 3,
            2, 3, 0, 0, 0, 17, 17, 18,
            17, 3, 5, 7, 3, 3};
        due("6 texts and places", texts.length, places.length);
        for (int t = 0; t < texts.length; t++) {
            due("6 fault of [" + texts[t] + "]", read(seat, texts[t]), -20 - places[t]);
            due("6 empty behind [" + texts[t] + "]", seat.theatre(), -20);
        }
        due("6 buyers stay", seat.count(0), 2);
        due("6 paid stays", seat.of(0, 1), 7);
        due("6 tricks stay", seat.count(7), 1);
        due("6 the minute stays", seat.count(1), 2);
        due("6 the sitter stays", seat.count(2), 0);
        due("6 what may be undone stays", seat.count(6), 2);
    }

    private static void promise7Count() {
        SoldSeat seat = with("p1:01,f2:234,m3");
        seat.changed(0, 1);
        seat.minutes(5);
        // 1 sits, 0 spends 0, 1 spends 2, 0 spends 1: only 1 knows 3 and 4.
        int[] counts = {3, 5, 0, 1, 2, 7, 6, 2};
        for (int what = 0; what < counts.length; what++) {
            due("7 count " + what, seat.count(what), counts[what]);
        }
        seat.sent(0);
        due("7 nobody sits", seat.count(2), NONE);
        due("7 nobody sat", seat.count(3), 0);
        due("7 here", seat.count(5), 6);
        seat.sent(1);
        due("7 tricks of all, here or not", seat.count(7), 2);
        seat.minutes(3);
        due("7 whose turn, here or not", seat.count(4), 2);
        seat.minutes(2);
        due("7 whose turn, here or not", seat.count(4), 0);
        due("7 eight at most", seat.count(6), 8);
        due("7 what", seat.count(-1), BAD);
        due("7 what", seat.count(8), BAD);
    }

    private static void promise8Minutes() {
        SoldSeat seat = new SoldSeat();
        due("8 n", seat.minutes(0), BAD);
        due("8 n", seat.minutes(41), BAD);
        due("8 n", seat.minutes(-1), BAD);
        due("8 n", seat.minutes(Integer.MAX_VALUE), BAD);
        due("8 without buyers", seat.minutes(40), NONE);
        due("8 the minute", seat.count(1), 40);
        for (int i = 0; i < 248; i++) {
            seat.minutes(40);
        }
        due("8 the minute", seat.count(1), 9960);
        due("8 full", seat.minutes(40), FULL);
        due("8 bad ahead of full", seat.minutes(41), BAD);
        due("8 the minute stays", seat.count(1), 9960);
        due("8 the last", seat.minutes(39), NONE);
        due("8 full", seat.minutes(1), FULL);
        due("8 the last minute", seat.count(1), 9999);
        seat = with("p1,p2");
        seat.sent(0);
        due("8 one who is not here", seat.minutes(1), NONE);
        due("8 one who is", seat.minutes(1), 1);
        due("8 seen", seat.of(1, 3), 1);
        due("8 stays", seat.minutes(3), 1);
        due("8 seen", seat.of(1, 3), 4);
        due("8 sat", seat.count(3), 4);
        due("8 each by itself", seat.count(6), 6);
    }

    private static void promise8Spending() {
        SoldSeat seat = with("p5:0,p5:134");
        due("8 first into an empty seat", seat.minutes(1), 0);
        due("8 nothing is spent", seat.of(0, 2), 1);
        due("8 ousted", seat.minutes(1), 1);
        due("8 the least that is not countered is spent", seat.of(1, 2), 24);
        due("8 the ousted one keeps", seat.of(0, 2), 1);
        due("8 sat anew", seat.count(3), 1);
        due("8 seen", seat.of(0, 3), 1);
        due("8 seen", seat.of(1, 3), 1);
        due("8 not countered by 3 and 4", seat.minutes(1), 0);
        due("8 spent", seat.of(0, 2), 0);
        due("8 all may", seat.minutes(1), 1);
        due("8 the least", seat.of(1, 2), 16);
        seat = with("p5:2,f5:1");
        due("8 a friend in minute 5", seat.minutes(6), 1);
        due("8 keeps what was countered", seat.of(1, 2), 2);
        seat = with("p5:2,f5:12");
        seat.learnt(0, 3);
        due("8 a friend, all countered", seat.minutes(2), 0);
        due("8 a friend in minute 5", seat.minutes(4), 1);
        due("8 keeps all", seat.of(1, 2), 6);
        seat = with("p1:3,d2:24");
        due("8 a duchess", seat.minutes(2), 1);
        due("8 spends what is not countered", seat.of(1, 2), 4);
        seat = with("p1,g2:34");
        due("8 a ghost", seat.minutes(2), 1);
        due("8 spends, too", seat.of(1, 2), 16);
    }

    private static void promise9Learnt() {
        SoldSeat seat = with("p1:03,f2");
        due("9 buyer", seat.learnt(-1, 0), BAD);
        due("9 buyer", seat.learnt(2, 0), BAD);
        due("9 trick", seat.learnt(0, -1), BAD);
        due("9 trick", seat.learnt(0, 5), BAD);
        due("9 knows it", seat.learnt(0, 3), NOT);
        due("9 nothing to undo", seat.count(6), 0);
        due("9 learnt", seat.learnt(0, 4), 25);
        due("9 learnt", seat.of(0, 2), 25);
        due("9 of none", seat.learnt(1, 0), 1);
        due("9 knows it now", seat.learnt(1, 0), NOT);
        seat.sent(1);
        due("9 sent home, learnt", seat.learnt(1, 1), 3);
        due("9 may be undone", seat.count(6), 4);
    }

    private static void promise10Sent() {
        SoldSeat seat = with("p1,f2,m3");
        due("10 buyer", seat.sent(-1), BAD);
        due("10 buyer", seat.sent(3), BAD);
        due("10 sent", seat.sent(1), 5);
        due("10 again", seat.sent(1), NOT);
        due("10 may be undone once", seat.count(6), 1);
        seat.minutes(1);
        due("10 another than the sitter", seat.sent(2), 1);
        due("10 the sitter stays", seat.count(2), 0);
        due("10 the sitter", seat.sent(0), 0);
        due("10 the seat is empty", seat.count(2), NONE);
        due("10 nobody sat", seat.count(3), 0);
        due("10 the buyers stay", seat.count(0), 3);
        due("10 seen stays", seat.of(0, 3), 1);
        due("10 nobody comes", seat.minutes(9), NONE);
    }

    private static void promise11Called() {
        SoldSeat seat = with("p1:1,f2");
        due("11 empty", seat.called(), NOT);
        due("11 nothing to undo", seat.count(6), 0);
        seat.minutes(2);
        due("11 called", seat.called(), 0);
        due("11 the seat is empty", seat.count(2), NONE);
        due("11 nobody sat", seat.count(3), 0);
        due("11 still here", seat.count(5), 3);
        due("11 seen stays", seat.of(0, 3), 2);
        due("11 again", seat.called(), NOT);
        due("11 may be undone", seat.count(6), 3);
        due("11 whose turn it is sits", seat.minutes(1), 0);
        due("11 sat anew", seat.count(3), 1);
    }

    private static void promise12Changed() {
        SoldSeat seat = with("p1,f2,m3");
        due("12 place", seat.changed(-1, 0), BAD);
        due("12 place", seat.changed(3, 0), BAD);
        due("12 other", seat.changed(0, -1), BAD);
        due("12 other", seat.changed(0, 3), BAD);
        due("12 alike", seat.changed(1, 1), BAD);
        due("12 nothing to undo", seat.count(6), 0);
        due("12 changed", seat.changed(0, 2), 2);
        due("12 changed", seat.changed(1, 2), 0);
        due("12 place 0", seat.turn(0), 2);
        due("12 place 1", seat.turn(1), 0);
        due("12 place 2", seat.turn(2), 1);
        due("12 whose turn", seat.minutes(1), 2);
        due("12 next", seat.count(4), 0);
        due("12 may be undone", seat.count(6), 3);
    }

    private static void promise13Drift() {
        SoldSeat seat = new SoldSeat();
        due("13 n", seat.drift(0), BAD);
        due("13 n", seat.drift(41), BAD);
        due("13 without buyers", seat.drift(1), NONE);
        // 1 * 1103515245 + 12345
        due("13 the draw all the same", seat.seed(1), 1103527590);
        due("13 may be undone", seat.count(6), 1);
        seat = with("p1,p2,p3,p4,p5,p6");
        due("13 one minute", seat.drift(1), 0);
        // 1103527590 / 65536 = 16838, by 6: 2 over; 1103527590 / 128 = 8621309, by 5: 4 over
        due("13 the rumour", seat.of(2, 2), 16);
        due("13 just one", seat.count(7), 1);
        // 1103527590 * 1103515245 + 12345, the lowest 31 bits: 377401575; / 65536 = 5758, by 6: 4; / 128 = 2948449, by 5: 4
        due("13 two minutes", seat.drift(1), 0);
        due("13 the next rumour", seat.of(4, 2), 16);
        due("13 the draw", seat.seed(1), 377401575);
        seat.sent(2);
        seat.drift(1);
        due("13 known already, sent", seat.of(2, 2), 16);
        seat = with("p1,p2,p3,p4,p5,p6");
        seat.sent(2);
        seat.drift(1);
        due("13 not here", seat.of(2, 2), 0);
        due("13 each one may be undone", seat.drift(9) == seat.count(2) ? seat.count(6) : BAD, 8);
        for (int v = 0; v < 1000; v++) {
            seat = with("p1,p2,p3,p4,p5,p6");
            seat.seed(v * 2147483 + 1);
            seat.drift(1);
            int draw = step(v * 2147483 + 1);
            due("13 by 65536, by 128", seat.of(draw / 65536 % 6, 2), 1 << draw / 128 % 5);
        }
        // Ahead of the minute: buyer 0 hears a trick and ousts by it.
        seat = with("p1,p2");
        seat.changed(0, 1);
        seat.minutes(1);
        int draw = 0;
        while ((step(draw) / 65536) % 2 != 0) {
            draw++;
        }
        seat.seed(draw);
        due("13 the rumour comes ahead of the minute", seat.drift(1), 0);
        due("13 and is spent", seat.of(0, 2), 0);
        due("13 undone with its minute", seat.undo(), 2);
        due("13 the sitter is back", seat.count(2), 1);
        due("13 the draw is back", seat.seed(0), draw);
        seat = new SoldSeat();
        for (int i = 0; i < 249; i++) {
            seat.drift(40);
        }
        int was = seat.seed(3);
        seat.seed(was);
        due("13 full", seat.drift(40), FULL);
        due("13 bad ahead of full", seat.drift(41), BAD);
        due("13 the draw stays", seat.seed(was), was);
        due("13 the last", seat.drift(39), NONE);
        due("13 full", seat.drift(1), FULL);
    }

    private static int step(int draw) {
        return (int) ((draw * 1103515245L + 12345L) % 2147483648L);
    }

    private static void promise14Undo() {
        SoldSeat seat = with("p1:0,p2:1,p3:2");
        due("14 none", seat.undo(), NONE);
        seat.minutes(2);
        due("14 spent", seat.of(1, 2), 0);
        due("14 a minute", seat.undo(), 1);
        due("14 sitter", seat.count(2), 0);
        due("14 sat", seat.count(3), 1);
        due("14 minute", seat.count(1), 1);
        due("14 knows again", seat.of(1, 2), 2);
        due("14 seen", seat.of(1, 3), 0);
        seat.learnt(0, 4);
        seat.sent(0);
        seat.changed(0, 1);
        due("14 changed", seat.undo(), 3);
        due("14 places", seat.turn(0), 0);
        due("14 sent", seat.undo(), 2);
        due("14 here", seat.count(5), 7);
        due("14 sitter", seat.count(2), 0);
        due("14 sat", seat.count(3), 1);
        due("14 learnt", seat.undo(), 1);
        due("14 knows", seat.of(0, 2), 1);
        seat.called();
        due("14 called", seat.undo(), 1);
        due("14 sitter", seat.count(2), 0);
        due("14 the first", seat.undo(), 0);
        due("14 the seat is empty", seat.count(2), NONE);
        due("14 none", seat.undo(), NONE);
        seat.learnt(0, 1);
        seat.seed(99);
        seat.undo();
        due("14 the draw, told since", seat.seed(1), 1);
        seat.minutes(12);
        for (int left = 7; left >= 0; left--) {
            due("14 eight are known", seat.undo(), left);
        }
        due("14 no ninth", seat.undo(), NONE);
        due("14 back to", seat.count(1), 4);
        seat.minutes(1);
        read(seat, "p1");
        due("14 a theatre", seat.undo(), NONE);
        seat.minutes(1);
        seat.buyer(0, 0, 0);
        due("14 a new buyer", seat.undo(), NONE);
    }

    private static void promise15Seed() {
        SoldSeat seat = new SoldSeat();
        due("15 below 0", seat.seed(-1), BAD);
        due("15 below 0", seat.seed(Integer.MIN_VALUE), BAD);
        due("15 was", seat.seed(0), 1);
        due("15 was", seat.seed(Integer.MAX_VALUE), 0);
        due("15 was", seat.seed(7), Integer.MAX_VALUE);
        due("15 nothing to undo", seat.count(6), 0);
        seat.seed(Integer.MAX_VALUE);
        seat.drift(1);
        due("15 from the greatest", seat.seed(0), step(Integer.MAX_VALUE));
    }

    private static void promise16Ahead() {
        SoldSeat seat = with("p5:0,p5:134");
        int[] sitters = {NONE, 0, 1, 0, 1, 1, 1};
        int[] tricks = {4, 4, 3, 2, 1, 1, 1};
        for (int n = 0; n < sitters.length; n++) {
            due("16 sitter", seat.ahead(n, 0), sitters[n]);
            due("16 tricks", seat.ahead(n, 1), tricks[n]);
        }
        due("16 far", seat.ahead(99, 0), 1);
        due("16 nothing is changed", seat.count(1), 0);
        due("16 nothing is changed", seat.count(7), 4);
        due("16 nothing to undo", seat.count(6), 0);
        due("16 n", seat.ahead(-1, 0), BAD);
        due("16 n", seat.ahead(100, 0), BAD);
        due("16 what", seat.ahead(0, -1), BAD);
        due("16 what", seat.ahead(0, 2), BAD);
        for (int i = 0; i < 249; i++) {
            seat.minutes(40);
        }
        due("16 beyond the last minute", seat.ahead(99, 0), 1);
    }

    private static void promise17Seen() {
        SoldSeat seat = with("p5:0,p5:134");
        int[] first = {0, 1, 1, 2, 2, 2};
        int[] second = {0, 0, 1, 1, 2, 3};
        for (int n = 0; n < first.length; n++) {
            due("17 seen", seat.seen(0, n), first[n]);
            due("17 seen", seat.seen(1, n), second[n]);
        }
        due("17 seen", seat.seen(1, 99), 97);
        seat.minutes(5);
        due("17 with what was seen", seat.seen(1, 2), 5);
        due("17 now", seat.seen(0, 0), 2);
        due("17 buyer", seat.seen(2, 0), BAD);
        due("17 buyer", seat.seen(-1, 0), BAD);
        due("17 n", seat.seen(0, -1), BAD);
        due("17 n", seat.seen(0, 100), BAD);
    }

    private static void promise18First() {
        SoldSeat seat = with("p5:0,p5:134,m1");
        due("18 first", seat.first(0), 1);
        due("18 first", seat.first(1), 2);
        due("18 never", seat.first(2), NONE);
        seat.minutes(1);
        due("18 now", seat.first(0), 0);
        due("18 next", seat.first(1), 1);
        due("18 buyer", seat.first(-1), BAD);
        due("18 buyer", seat.first(3), BAD);
        due("18 nothing is changed", seat.count(1), 1);
        // The last minute that counts, found by a search.
        seat = with("f4:234,d9:023,m7:013,m2:023,p3:0134,m5:0234");
        due("18 behind 100", seat.first(3), NONE);
        seat.minutes(1);
        due("18 behind 99", seat.first(3), 99);
    }

    private static void promise19Round() {
        SoldSeat seat = new SoldSeat();
        due("19 what", seat.round(-1), BAD);
        due("19 what", seat.round(2), BAD);
        due("19 nobody", seat.round(0), NONE);
        seat.buyer(0, 0, 0);
        due("19 sat 4 and more are alike", seat.round(0), 9);
        due("19 later by", seat.round(1), 5);
        seat.sent(0);
        due("19 empty", seat.round(0), 5);
        due("19 later by", seat.round(1), 5);
        seat = with("p1,p1");
        due("19 two places", seat.round(0), 14);
        due("19 two places", seat.round(1), 10);
        seat = with("p1,p1,p1,p1,p1,p1");
        due("19 six places", seat.round(0), 34);
        due("19 six places", seat.round(1), 30);
        seat = with("p1:0,p1");
        seat.minutes(9);
        due("19 as now", seat.round(0), 10);
        due("19 as now", seat.round(1), 10);
        due("19 nothing is changed", seat.count(1), 9);
        // The friend is not taken for the one whom it ousts in minute 5.
        seat = with("p1,f1");
        due("19 who sits", seat.round(0), 19);
        due("19 who sits", seat.round(1), 10);
        // The last minute that counts, found by a search.
        seat = with("m8:0124,d0:02,f4:01,d8:012,d2:12,m2:01234");
        seat.minutes(10);
        due("19 behind 301", seat.round(0), NONE);
        due("19 behind 301", seat.round(1), NONE);
        seat.minutes(1);
        due("19 behind 300", seat.round(0), 300);
        due("19 behind 300", seat.round(1), 30);
        // The friends change places in minutes 5 and 10: what sat at 0 comes round at 15.
        seat = with("f1,f1,f1");
        due("19 friends", seat.round(0), 16);
        due("19 friends", seat.round(1), 15);
    }

    private static void promise20Turns() {
        SoldSeat seat = with("p5:1,p5:2,p5");
        // 2 sits down at once, 0 can't wait longer than till minute 1: 2, 0, 1 or 2, 1, 0.
        due("20 how much", seat.turns(2, 3, -1), 1);
        due("20 of like ones the first", seat.turns(2, 3, 0), 2);
        due("20 of like ones the first", seat.turns(2, 3, 1), 0);
        due("20 of like ones the first", seat.turns(2, 3, 2), 1);
        due("20 not so many", seat.turns(2, 3, 3), NONE);
        due("20 not so many", seat.turns(2, 3, Integer.MAX_VALUE), NONE);
        // 1 ousts everybody, 0 can't oust 1 while 1 knows 2: 1, 0, 2 keeps the seat.
        due("20 how much", seat.turns(1, 40, -1), 40);
        due("20 who", seat.turns(1, 40, 0), 1);
        due("20 who", seat.turns(1, 40, 1), 0);
        due("20 who", seat.turns(1, 40, 2), 2);
        due("20 nothing is changed", seat.turn(0), 0);
        due("20 one minute", seat.turns(1, 1, -1), 1);
        seat.minutes(4);
        due("20 seen before", seat.of(0, 3), 2);
        due("20 in them alone", seat.turns(0, 2, -1), 2);
        due("20 buyer", seat.turns(-1, 1, 0), BAD);
        due("20 buyer", seat.turns(3, 1, 0), BAD);
        due("20 n", seat.turns(0, 0, 0), BAD);
        due("20 n", seat.turns(0, 41, 0), BAD);
        due("20 k", seat.turns(0, 1, -2), BAD);
        due("20 k", seat.turns(0, 1, Integer.MIN_VALUE), BAD);
        seat = with("p1,p2,p3");
        seat.sent(1);
        due("20 one who is not here", seat.turns(1, 9, -1), 0);
        due("20 one who is not here", seat.turns(1, 9, 0), 0);
        due("20 who was sent is dealt, too", seat.turns(0, 9, 1), 1);
        seat.minutes(1);
        seat.called();
        // The minute is 1: place 1 comes first, place 0 is free for whoever is first by number.
        due("20 from now on", seat.turns(0, 9, -1), 9);
        due("20 from now on", seat.turns(0, 9, 1), 0);
        due("20 from now on", seat.turns(0, 9, 0), 1);
        // The last of all ways, found by a search.
        seat = with("f4:134,g6:2,g2:013,f3:0124,f6:0,g7:123");
        due("20 the last way", seat.turns(5, 18, -1), 7);
        for (int k = 0; k < 6; k++) {
            due("20 the last way", seat.turns(5, 18, k), 5 - k);
        }
    }

    private static void promise21Fair() {
        SoldSeat seat = new SoldSeat();
        due("21 nobody", seat.fair(1, -1), NONE);
        due("21 nobody", seat.fair(1, 0), NONE);
        due("21 bad ahead of none", seat.fair(0, -1), BAD);
        seat = with("p5:1,p5:2,p5:3");
        due("21 n", seat.fair(0, 0), BAD);
        due("21 n", seat.fair(41, 0), BAD);
        due("21 k", seat.fair(1, -2), BAD);
        // 0, 1, 2: each ousts the one ahead, one minute each.
        due("21 how far", seat.fair(3, -1), 0);
        due("21 who", seat.fair(3, 0), 0);
        due("21 who", seat.fair(3, 1), 1);
        due("21 who", seat.fair(3, 2), 2);
        due("21 not so many", seat.fair(3, 3), NONE);
        due("21 one minute", seat.fair(1, -1), 1);
        for (int k = 0; k < 3; k++) {
            due("21 of like ones the first", seat.fair(1, k), k);
        }
        due("21 40 minutes", seat.fair(40, 3), NONE);
        seat = with("p5:3,p5:2,p5:1");
        // 1 can't oust 0, nor 2 oust 1; 0, 2, 1: each one minute.
        due("21 how far", seat.fair(3, -1), 0);
        due("21 who", seat.fair(3, 0), 0);
        due("21 who", seat.fair(3, 1), 2);
        due("21 who", seat.fair(3, 2), 1);
        seat = with("p1,p2");
        seat.minutes(4);
        due("21 in them alone", seat.fair(3, -1), 3);
        seat = with("f1,f2,f3");
        seat.sent(1);
        // Best 1 (nobody sits), 0 and 2, who change places in minutes 5 and 10.
        due("21 of all, who was sent, too", seat.fair(12, -1), 6);
        due("21 who", seat.fair(12, 0), 1);
        due("21 who", seat.fair(12, 1), 0);
        due("21 nothing is changed", seat.count(1), 0);
    }

    private static void promise21FairWithSome() {
        SoldSeat seat = with("p1,p2");
        seat.sent(1);
        due("21 nobody sees", seat.fair(1, -1), 0);
        due("21 nobody sees", seat.fair(1, 0), 1);
        seat = with("p1,p2");
        seat.sent(0);
        due("21 who was sent sees least", seat.fair(2, -1), 1);
        due("21 who was sent sees least", seat.fair(2, 0), 0);
        // The last of all ways, found by a search.
        seat = with("f7:04,g9:1234,p3:01,f6:12,g9:234,d3:0");
        due("21 the last way", seat.fair(18, -1), 0);
        for (int k = 0; k < 6; k++) {
            due("21 the last way", seat.fair(18, k), 5 - k);
        }
    }

    private static void promise22Learn() {
        SoldSeat seat = with("p5:2,p5,p5:01234");
        due("22 buyer", seat.learn(3, 1, 0), BAD);
        due("22 buyer", seat.learn(-1, 1, 0), BAD);
        due("22 n", seat.learn(0, 0, 0), BAD);
        due("22 n", seat.learn(0, 41, 0), BAD);
        due("22 what", seat.learn(0, 1, 2), BAD);
        due("22 what", seat.learn(0, 1, -1), BAD);
        due("22 knows all", seat.learn(2, 9, 0), NONE);
        due("22 knows all", seat.learn(2, 9, 1), NONE);
        due("22 bad ahead of none", seat.learn(2, 41, 0), BAD);
        // 0 sits, by 1 it can't be ousted, as it knows 2; by 0 it is.
        seat = with("p5:2,p5");
        due("22 the trick", seat.learn(1, 3, 0), 0);
        due("22 how much", seat.learn(1, 3, 1), 1);
        seat = with("p5:14,p5");
        due("22 not 0, which is countered", seat.learn(1, 2, 0), 1);
        due("22 how much", seat.learn(1, 2, 1), 1);
        due("22 the least of like ones", seat.learn(0, 2, 0), 0);
        due("22 one minute", seat.learn(0, 1, 1), 1);
        due("22 how much", seat.learn(0, 2, 1), 2);
        due("22 nothing is learnt", seat.count(7), 2);
        seat.minutes(2);
        due("22 in them alone", seat.learn(0, 2, 1), 2);
        seat.sent(1);
        due("22 one who is not here", seat.learn(1, 9, 0), 0);
        due("22 one who is not here", seat.learn(1, 9, 1), 0);
    }

    private static void promise23Pay() {
        SoldSeat seat = with("p5,d2,d9");
        due("23 buyer", seat.pay(3, 0), BAD);
        due("23 buyer", seat.pay(-1, 0), BAD);
        due("23 n", seat.pay(0, -1), BAD);
        due("23 n", seat.pay(0, 41), BAD);
        due("23 nobody sits", seat.pay(0, 0), NONE);
        due("23 first", seat.pay(0, 1), 0);
        due("23 not to be ousted", seat.pay(0, 3), 9);
        due("23 to oust", seat.pay(1, 2), 6);
        due("23 to oust and stay", seat.pay(1, 3), 9);
        due("23 none", seat.pay(1, 1), NONE);
        due("23 whatever", seat.pay(2, 3), 6);
        seat = with("p98,d0");
        due("23 by 99", seat.pay(1, 2), 99);
        seat = with("p99,d0");
        due("23 not even by 99", seat.pay(1, 2), NONE);
        due("23 nothing is changed", seat.of(1, 1), 0);
        seat.minutes(1);
        due("23 now", seat.pay(0, 0), 0);
    }

    private static void promise24Send() {
        SoldSeat seat = with("p5:0,p5:2,p5:3,p5");
        due("24 buyer", seat.send(4, 0, 0), BAD);
        due("24 buyer", seat.send(-1, 0, 0), BAD);
        due("24 n", seat.send(0, -1, 0), BAD);
        due("24 n", seat.send(0, 41, 0), BAD);
        due("24 what", seat.send(0, 0, 2), BAD);
        due("24 what", seat.send(0, 0, -1), BAD);
        due("24 nobody sits", seat.send(0, 0, 0), NONE);
        due("24 nobody has to go", seat.send(2, 3, 0), 0);
        due("24 nobody has to go", seat.send(2, 3, 1), 0);
        due("24 how many", seat.send(1, 4, 0), 1);
        due("24 which", seat.send(1, 4, 1), 4);
        due("24 all three", seat.send(3, 4, 0), 3);
        due("24 all three", seat.send(3, 4, 1), 7);
        due("24 none", seat.send(3, 3, 0), NONE);
        due("24 none", seat.send(3, 3, 1), NONE);
        due("24 nothing is changed", seat.count(5), 15);
        seat.sent(1);
        due("24 others here", seat.send(3, 4, 1), 5);
        seat.sent(3);
        due("24 not here itself", seat.send(3, 4, 0), NONE);
        seat.minutes(1);
        due("24 now", seat.send(0, 0, 0), 0);
        due("24 now another", seat.send(2, 0, 0), NONE);
        // Behind 2 minutes 1 sits only if 0, who sits, goes.
        seat = with("p5:1,p5:0,p5");
        seat.minutes(1);
        due("24 the sitter goes", seat.send(1, 1, 1), 1);
        // 3 can't oust 2, who ousts 1 and keeps 1 (not without 1: then 1 is spent), so 1 or 2 has to go.
        seat = with("p1,p1:12,p1:13,p1:0");
        due("24 how many of like ones", seat.send(3, 4, 0), 1);
        due("24 of like ones the least", seat.send(3, 4, 1), 2);
    }

    private static void promise25Ousts() {
        SoldSeat seat = with("p5:0,p5:1,d6,g1,m9:3");
        due("25 buyer", seat.ousts(5), BAD);
        due("25 buyer", seat.ousts(-1), BAD);
        due("25 plain, 0 is countered by 1", seat.ousts(0), 28);
        due("25 plain", seat.ousts(1), 29);
        due("25 duchess in minute 0", seat.ousts(2), 27);
        due("25 ghost", seat.ousts(3), 4);
        due("25 meek, nobody sat", seat.ousts(4), 0);
        seat.minutes(1);
        due("25 the sitter, too", seat.ousts(0), 28);
        due("25 duchess in minute 1", seat.ousts(2), 11);
        seat.sent(3);
        due("25 those here", seat.ousts(2), 3);
        due("25 not here", seat.ousts(3), NOT);
        seat = with("p5:1,m5:0,p5");
        seat.minutes(3);
        due("25 sat too short", seat.ousts(1), 0);
        seat.minutes(1);
        due("25 sat long enough, were it another", seat.ousts(1), 4);
    }

    private static void promise26Safe() {
        SoldSeat seat = with("p5:0,p5:1,p5,p5:2");
        // 1 ousts 0, 3 ousts 1, 0 ousts 3, and all oust 2, who knows nothing.
        due("26 nobody", seat.safe(), 0);
        seat = with("p5:0,p5:1");
        due("26 safe", seat.safe(), 2);
        seat.sent(1);
        due("26 those here", seat.safe(), 1);
        seat = with("p5,p6,p7");
        due("26 all", seat.safe(), 7);
        seat = with("p5,p6,d6");
        seat.minutes(1);
        due("26 who paid as much", seat.safe(), 6);
        seat.sent(2);
        due("26 nobody here ousts", seat.safe(), 3);
        seat = with("p5,m5:0");
        due("26 meek, not yet", seat.safe(), 3);
        seat.minutes(4);
        due("26 meek, now", seat.safe(), 2);
    }

    private static void promise27Miss() {
        SoldSeat seat = with("p5,p6");
        due("27 buyer", seat.miss(2, 0, 0, 0), BAD);
        due("27 buyer", seat.miss(-1, 0, 0, 0), BAD);
        due("27 n", seat.miss(0, -1, 0, 0), BAD);
        due("27 n", seat.miss(0, 9, 0, 0), BAD);
        due("27 c", seat.miss(0, 0, -1, 0), BAD);
        due("27 c", seat.miss(0, 0, 11, 0), BAD);
        due("27 what", seat.miss(0, 0, 0, -1), BAD);
        due("27 what", seat.miss(0, 0, 0, 2), BAD);
        int[][] asked = {{0, 0, 5, 0, 1}, {0, 1, 3, 7, 10}, {1, 1, 3, 0, 1}, {1, 2, 3, 21, 100}, {0, 2, 3, 7, 10},
            {0, 3, 5, 5, 8}, {1, 8, 0, 0, 1}, {0, 8, 0, 1, 1}, {0, 8, 10, 0, 1}, {1, 4, 2, 104, 625},
            {0, 8, 1, 90909090, 100000000}};
        for (int[] a : asked) {
            String call = "27 miss " + a[0] + " " + a[1] + " " + a[2];
            long common = a[1] == 8 && a[2] == 1 ? 10 : 1;
            due(call, seat.miss(a[0], a[1], a[2], 0), a[3] / common);
            due(call, seat.miss(a[0], a[1], a[2], 1), a[4] / common);
        }
        due("27 nothing is changed", seat.count(1), 0);
        seat.minutes(1);
        due("27 now", seat.miss(0, 0, 9, 0), 1);
        due("27 now", seat.miss(0, 0, 9, 1), 1);
        due("27 who sits, stays", seat.miss(0, 8, 10, 0), 1);
    }

    private static void promise28And29ImageRestore() {
        SoldSeat seat = with("p5:0,p5:134");
        due("29 none", seat.restore(), NONE);
        seat.seed(50);
        seat.changed(0, 1);
        seat.minutes(3);
        seat.learnt(0, 2);
        due("28 image", seat.image(), 1);
        int[] counts = new int[8];
        for (int what = 0; what < 8; what++) {
            counts[what] = seat.count(what);
        }
        int[][] people = new int[2][7];
        for (int b = 0; b < 2; b++) {
            for (int what = 0; what < 7; what++) {
                people[b][what] = seat.of(b, what);
            }
        }
        for (int twice = 0; twice < 2; twice++) {
            seat.minutes(9);
            seat.sent(0);
            read(seat, "g9,g8,g7");
            seat.drift(3);
            seat.type('p');
            seat.sheet(0, 2, 3 + twice);
            due("29 restore", seat.restore(), 1);
            for (int what = 0; what < 8; what++) {
                due("29 count " + what, seat.count(what), counts[what]);
            }
            for (int b = 0; b < 2; b++) {
                for (int what = 0; what < 7; what++) {
                    due("29 of " + b + " " + what, seat.of(b, what), people[b][what]);
                }
            }
            due("29 the draw", seat.seed(4), 50);
            due("29 sheets stay", seat.drop(0), 3 + twice);
            due("29 the tape stays", seat.type('1'), 2);
            due("29 the tape stays", read(seat, "x"), -22);
            due("29 undone", seat.undo(), 4);
            due("29 as it was", seat.of(0, 2), people[0][2] & ~4);
            due("29 undone", seat.undo(), 3);
            due("29 as it was", seat.count(1), 2);
            seat.undo();
            seat.undo();
            due("29 undone", seat.undo(), 0);
            due("29 as it was", seat.turn(0), 0);
        }
        seat.image();
        seat.minutes(1);
        seat.restore();
        due("29 the latest image", seat.count(1), 0);
    }

    private static void tell(SoldSeat seat, int sheet, int lane, long... items) {
        seat.sheet(sheet, lane, items.length);
        for (int i = 0; i < items.length; i++) {
            due("35 item", seat.item(sheet, lane, i, items[i]), 1);
        }
    }

    private static void promise30Stubs() {
        SoldSeat seat = with("p5:1,p7:0");
        seat.sheet(0, 0, 9);
        due("30 buyer", seat.stubs(2, 0, 0, 0, 1, 0), BAD);
        due("30 buyer", seat.stubs(-1, 0, 0, 0, 1, 0), BAD);
        due("30 sheet", seat.stubs(0, 4, 0, 0, 1, 0), BAD);
        due("30 sheet", seat.stubs(0, -1, 0, 0, 1, 0), BAD);
        due("30 lane", seat.stubs(0, 0, 4, 0, 1, 0), BAD);
        due("30 lane", seat.stubs(0, 0, -1, 0, 1, 0), BAD);
        due("30 n", seat.stubs(0, 0, 0, 0, 0, 0), BAD);
        due("30 n", seat.stubs(0, 0, 0, 0, 9, 0), BAD);
        due("30 what", seat.stubs(0, 0, 0, 0, 1, -1), BAD);
        due("30 what", seat.stubs(0, 0, 0, 0, 1, 3), BAD);
        due("30 null", seat.stubs(0, 1, 0, 0, 1, 0), NULL);
        due("30 bad ahead of null", seat.stubs(0, 1, 0, 0, 9, 0), BAD);
        due("30 cast", seat.stubs(0, 0, 1, 0, 1, 0), CAST);
        due("30 cast ahead of index", seat.stubs(0, 0, 1, 9, 1, 0), CAST);
        due("30 index", seat.stubs(0, 0, 0, 9, 1, 0), INDEX);
        due("30 index", seat.stubs(0, 0, 0, 2, 8, 0), INDEX);
        due("30 index", seat.stubs(0, 0, 0, -1, 1, 0), INDEX);
        due("30 index", seat.stubs(0, 0, 0, Integer.MAX_VALUE, 8, 0), INDEX);
        tell(seat, 1, 3, 9, 0, 1, 0);
        // 1 ousts 0 in minute 1: only a duchess can by price, as 0 is countered by 1.
        due("30 kinds", seat.stubs(1, 1, 3, 1, 2, 0), 8);
        // By tricks: any set but {} and {0}.
        due("30 how many", seat.stubs(1, 1, 3, 1, 2, 1), 30);
        due("30 the least", seat.stubs(1, 1, 3, 1, 2, 2), 2);
        due("30 whatever", seat.stubs(1, 1, 3, 1, 1, 0), 31);
        due("30 whatever", seat.stubs(1, 1, 3, 1, 1, 1), 32);
        due("30 whatever", seat.stubs(1, 1, 3, 1, 1, 2), 0);
        due("30 no such buyer: kinds", seat.stubs(1, 1, 3, 0, 1, 0), 0);
        due("30 no such buyer: how many", seat.stubs(1, 1, 3, 0, 1, 1), 0);
        due("30 no such buyer: the least", seat.stubs(1, 1, 3, 0, 1, 2), NONE);
        tell(seat, 2, 0, -4, 1, 1);
        due("30 nobody", seat.stubs(0, 2, 0, 0, 1, 0), 0);
        seat.sent(0);
        due("30 nobody", seat.stubs(1, 2, 0, 0, 3, 0), 31);
        due("30 nobody", seat.stubs(0, 2, 0, 0, 3, 1), 32);
        tell(seat, 3, 3, 4294967292L);
        due("30 a long is not cut", seat.stubs(0, 3, 3, 0, 1, 0), 0);
        due("30 nothing is changed", seat.count(1), 0);
        due("30 nothing is changed", seat.of(1, 0), 0);
        due("30 nothing is changed", seat.of(1, 2), 1);
    }

    private static void promise31Gaps() {
        SoldSeat seat = new SoldSeat();
        tell(seat, 0, 1, 3, 9, 4, 99, 1, 3, 100, 0, -1, 2);
        due("31 sheet", seat.gaps(4, 1, 0, 1, 0, 0), BAD);
        due("31 sheet", seat.gaps(-1, 1, 0, 1, 0, 0), BAD);
        due("31 lane", seat.gaps(0, 4, 0, 1, 0, 0), BAD);
        due("31 lane", seat.gaps(0, -1, 0, 1, 0, 0), BAD);
        due("31 n", seat.gaps(0, 1, 0, 0, 0, 0), BAD);
        due("31 n", seat.gaps(0, 1, 0, 9, 0, 0), BAD);
        due("31 m", seat.gaps(0, 1, 0, 1, -1, 0), BAD);
        due("31 m", seat.gaps(0, 1, 0, 1, 100, 0), BAD);
        due("31 what", seat.gaps(0, 1, 0, 1, 9, 2), BAD);
        due("31 what", seat.gaps(0, 1, 0, 1, 9, -1), BAD);
        due("31 what, m 0", seat.gaps(0, 1, 0, 1, 0, 1), BAD);
        due("31 null", seat.gaps(1, 1, 0, 1, 0, 0), NULL);
        due("31 cast", seat.gaps(0, 2, 99, 1, 0, 0), CAST);
        due("31 index", seat.gaps(0, 1, 10, 1, 0, 0), INDEX);
        due("31 index", seat.gaps(0, 1, 3, 8, 0, 0), INDEX);
        due("31 index", seat.gaps(0, 1, -1, 1, 0, 0), INDEX);
        due("31 index ahead of not", seat.gaps(0, 1, 5, 6, 0, 0), INDEX);
        due("31 the least", seat.gaps(0, 1, 0, 3, 0, 0), 9);
        due("31 the least", seat.gaps(0, 1, 0, 5, 0, 0), 99);
        due("31 told twice", seat.gaps(0, 1, 0, 6, 0, 0), NOT);
        due("31 above 99", seat.gaps(0, 1, 6, 1, 0, 0), NOT);
        due("31 below 1", seat.gaps(0, 1, 7, 1, 0, 0), NOT);
        due("31 below 1", seat.gaps(0, 1, 8, 1, 0, 0), NOT);
        due("31 above m", seat.gaps(0, 1, 0, 3, 8, 0), NOT);
        due("31 as m", seat.gaps(0, 1, 0, 3, 9, 0), 1);
        due("31 as m", seat.gaps(0, 1, 0, 3, 9, 1), 1);
        // 9 over 3 is 84, 10 over 3 is 120.
        due("31 above", seat.gaps(0, 1, 0, 3, 10, 0), 7);
        due("31 below", seat.gaps(0, 1, 0, 3, 10, 1), 10);
        due("31 one", seat.gaps(0, 1, 9, 1, 98, 0), 1);
        due("31 one", seat.gaps(0, 1, 9, 1, 98, 1), 49);
        tell(seat, 2, 3, 1, 2, 3, 4, 5, 6, 7, 8, 4294967299L);
        due("31 eight of 99", seat.gaps(2, 3, 0, 8, 99, 0), 1);
        due("31 eight of 99", seat.gaps(2, 3, 0, 8, 99, 1), 171200862756L);
        due("31 a long is not cut", seat.gaps(2, 3, 8, 1, 0, 0), NOT);
    }

    private static void promise32Film() {
        SoldSeat seat = with("p5:1,d6:1");
        seat.sheet(0, 2, 24);
        due("32 n", seat.film(0, 0, 2, 0), BAD);
        due("32 n", seat.film(25, 0, 2, 0), BAD);
        due("32 sheet", seat.film(1, 4, 2, 0), BAD);
        due("32 sheet", seat.film(1, -1, 2, 0), BAD);
        due("32 lane", seat.film(1, 0, 4, 0), BAD);
        due("32 lane", seat.film(1, 0, -1, 0), BAD);
        due("32 null", seat.film(1, 1, 2, 0), NULL);
        due("32 cast", seat.film(1, 0, 3, 24), CAST);
        due("32 index", seat.film(1, 0, 2, 24), INDEX);
        due("32 index", seat.film(24, 0, 2, 1), INDEX);
        due("32 index", seat.film(1, 0, 2, -1), INDEX);
        due("32 all", seat.film(24, 0, 2, 0), 24);
        tell(seat, 1, 0, 50, 51, 52, 53, 54, 55);
        due("32 film", seat.film(3, 1, 0, 2), 3);
        due("32 refused, nothing comes", seat.film(3, 1, 0, 4), INDEX);
        due("32 ahead of it", seat.gaps(1, 0, 1, 1, 0, 0), 51);
        due("32 behind it", seat.gaps(1, 0, 5, 1, 0, 0), 55);
        due("32 the sitters", seat.stubs(0, 1, 0, 2, 3, 0) & 1, 1);
        due("32 the second", seat.gaps(1, 0, 3, 1, 0, 0), 1);
        due("32 nothing is changed", seat.count(1), 0);
        seat.sent(0);
        seat.film(2, 1, 0, 0);
        due("32 nobody, then 1", seat.stubs(0, 1, 0, 0, 2, 1), 32);
        due("32 nobody is -4", seat.item(1, 0, 0, -4), 1);
        due("32 nobody, then 1", seat.stubs(0, 1, 0, 0, 2, 1), 32);
        seat.item(1, 0, 0, 0);
        due("32 not 0", seat.stubs(0, 1, 0, 0, 2, 1), 0);
    }

    private static void promise33Sheet() {
        SoldSeat seat = new SoldSeat();
        due("33 sheet", seat.sheet(-1, 0, 1), BAD);
        due("33 sheet", seat.sheet(4, 0, 1), BAD);
        due("33 lane", seat.sheet(0, -1, 1), BAD);
        due("33 lane", seat.sheet(0, 4, 1), BAD);
        due("33 n", seat.sheet(0, 0, 25), BAD);
        due("33 n", seat.sheet(0, 0, Integer.MAX_VALUE), BAD);
        due("33 size", seat.sheet(0, 0, -1), SIZE);
        due("33 size", seat.sheet(0, 0, Integer.MIN_VALUE), SIZE);
        due("33 bad ahead of size", seat.sheet(0, 4, -1), BAD);
        due("33 still nothing", seat.drop(0), NULL);
        due("33 empty", seat.sheet(0, 0, 0), 0);
        due("33 empty", seat.drop(0), 0);
        for (int sheet = 0; sheet < 4; sheet++) {
            for (int lane = 0; lane < 4; lane++) {
                due("33 new", seat.sheet(sheet, lane, 24), 24);
                for (int taken = 0; taken < 4; taken++) {
                    due("33 its lane", seat.item(sheet, taken, 23, 7), taken == lane ? 1 : CAST);
                }
                due("33 kept", seat.gaps(sheet, lane, 23, 1, 0, 0), 7);
                due("33 refused", seat.sheet(sheet, lane, -1), SIZE);
                due("33 kept", seat.gaps(sheet, lane, 23, 1, 0, 0), 7);
                due("33 anew", seat.sheet(sheet, lane, 24), 24);
                due("33 items are 0", seat.gaps(sheet, lane, 23, 1, 0, 0), NOT);
            }
        }
        due("33 shorter", seat.sheet(0, 0, 2), 2);
        due("33 shorter", seat.item(0, 0, 2, 1), INDEX);
    }

    private static void promise34Drop() {
        SoldSeat seat = new SoldSeat();
        due("34 sheet", seat.drop(-1), BAD);
        due("34 sheet", seat.drop(4), BAD);
        due("34 null", seat.drop(3), NULL);
        seat.sheet(3, 1, 17);
        due("34 how many", seat.drop(3), 17);
        due("34 again", seat.drop(3), NULL);
        due("34 nothing", seat.item(3, 1, 0, 0), NULL);
    }

    private static void promise35Item() {
        SoldSeat seat = new SoldSeat();
        due("35 sheet", seat.item(-1, 0, 0, 0), BAD);
        due("35 sheet", seat.item(4, 0, 0, 0), BAD);
        due("35 lane", seat.item(0, -1, 0, 0), BAD);
        due("35 lane", seat.item(0, 4, 0, 0), BAD);
        due("35 null", seat.item(0, 0, 0, 0), NULL);
        seat.sheet(0, 2, 3);
        due("35 cast", seat.item(0, 0, 9, 0), CAST);
        due("35 index", seat.item(0, 2, 3, 0), INDEX);
        due("35 index", seat.item(0, 2, -1, 0), INDEX);
        due("35 item", seat.item(0, 2, 2, 41), 1);
        due("35 item", seat.gaps(0, 2, 2, 1, 0, 0), 41);
        due("35 the others stay", seat.gaps(0, 2, 1, 1, 0, 0), NOT);
        int[] bits = {8, 16, 32};
        for (int lane = 0; lane < 3; lane++) {
            tell(seat, 1, lane, 5 + (1L << bits[lane]), 5 + (1L << bits[lane] - 1), 5 - (1L << 40));
            due("35 the lowest bits", seat.gaps(1, lane, 0, 1, 0, 0), 5);
            due("35 the highest of them", seat.gaps(1, lane, 1, 1, 0, 0), NOT);
            due("35 the lowest bits", seat.gaps(1, lane, 2, 1, 0, 0), 5);
        }
        tell(seat, 1, 3, 5 + (1L << 32), 5 + (1L << 62), 5);
        due("35 a long is whole", seat.gaps(1, 3, 0, 1, 0, 0), NOT);
        due("35 a long is whole", seat.gaps(1, 3, 1, 1, 0, 0), NOT);
        due("35 a long is whole", seat.gaps(1, 3, 2, 1, 0, 0), 5);
    }

    private static void holds(String what, SoldSeat seat, int sheet, int lane, int... items) {
        for (int i = 0; i < items.length; i++) {
            due(what + " " + i, seat.gaps(sheet, lane, i, 1, 0, 0), items[i]);
        }
    }

    private static void promise36Copy() {
        SoldSeat seat = new SoldSeat();
        due("36 from", seat.copy(-1, 0, 0, 0, 0), BAD);
        due("36 from", seat.copy(4, 0, 0, 0, 0), BAD);
        due("36 to", seat.copy(0, 0, -1, 0, 0), BAD);
        due("36 to", seat.copy(0, 0, 4, 0, 0), BAD);
        due("36 null", seat.copy(0, 0, 0, 0, 0), NULL);
        tell(seat, 0, 0, 11, 12, 13, 14, 15);
        due("36 null, either", seat.copy(0, 0, 1, 0, 1), NULL);
        due("36 null, either", seat.copy(1, 0, 0, 0, 1), NULL);
        tell(seat, 1, 1, 21, 22, 23);
        tell(seat, 2, 0, 31, 32, 33);
        due("36 cast", seat.copy(0, 9, 1, 9, 9), CAST);
        due("36 cast of none", seat.copy(0, 0, 1, 0, 0), CAST);
        due("36 index", seat.copy(0, 0, 2, 0, 4), INDEX);
        due("36 index", seat.copy(0, 3, 2, 0, 3), INDEX);
        due("36 index", seat.copy(0, -1, 2, 0, 1), INDEX);
        due("36 index", seat.copy(0, 0, 2, -1, 1), INDEX);
        due("36 index", seat.copy(0, 0, 2, 0, -1), INDEX);
        due("36 index", seat.copy(0, 6, 2, 0, 0), INDEX);
        due("36 index", seat.copy(0, 0, 2, 4, 0), INDEX);
        due("36 index", seat.copy(0, 1, 2, 0, Integer.MAX_VALUE), INDEX);
        due("36 index", seat.copy(0, Integer.MAX_VALUE, 2, 0, Integer.MAX_VALUE), INDEX);
        holds("36 refused", seat, 2, 0, 31, 32, 33);
        due("36 none", seat.copy(0, 5, 2, 3, 0), 0);
        holds("36 none", seat, 2, 0, 31, 32, 33);
        due("36 some", seat.copy(0, 3, 2, 1, 2), 2);
        holds("36 to", seat, 2, 0, 31, 14, 15);
        holds("36 from", seat, 0, 0, 11, 12, 13, 14, 15);
        due("36 upwards", seat.copy(0, 0, 0, 1, 4), 4);
        holds("36 upwards", seat, 0, 0, 11, 11, 12, 13, 14);
        due("36 downwards", seat.copy(0, 2, 0, 0, 3), 3);
        holds("36 downwards", seat, 0, 0, 12, 13, 14, 13, 14);
    }
}
