/** Boundaries of the tape and of theatres: promises 5, 6. */
final class TextBounds extends Bounds {
    private static final String SIX = "p1,p2,p3,p4,p5,p6";

    private TextBounds() {
    }

    private static String filled(String text, int size) {
        return text + " ".repeat(size - text.length());
    }

    /** A fault at this place, behind which the tape is empty. */
    private static void fault(String text, int place) {
        SoldSeat seat = new SoldSeat();
        due("[" + text + "]", read(seat, text), -20 - place);
        due("the tape behind [" + text + "]", seat.type('x'), 1);
    }

    private static void fine(String text, int people) {
        due("[" + text + "]", read(new SoldSeat(), text), people);
    }

    // ---- promise 5: type

    @Says(promise = 5, sentence = "BAD: not 32 .. 126")
    static void letters() {
        range("letter", 32, 126, v -> new SoldSeat().type(v));
        due("a letter and 65536 more", new SoldSeat().type(65536 + 'p'), BAD);
        due("a letter and 256 more", new SoldSeat().type(256 + 'p'), BAD);
        still("letter 31", seat -> seat.type(31), BAD);
        still("letter 127", seat -> seat.type(127), BAD);
    }

    @Says(promise = 5, sentence = "One letter more behind THE TAPE: how many it has.")
    static void theFirstLetter() {
        SoldSeat seat = new SoldSeat();
        due("the first", seat.type(' '), 1);
        due("the second", seat.type('~'), 2);
        due("read", seat.theatre(), -21);
        due("the first anew", seat.type('p'), 1);
    }

    @Says(promise = 5, sentence = "FULL: 70.")
    static void theTapeIsFull() {
        SoldSeat seat = new SoldSeat();
        for (int n = 1; n <= 70; n++) {
            due("letter", seat.type(n < 3 ? "p1".charAt(n - 1) : ' '), n);
        }
        due("the 71st", seat.type('x'), FULL);
        due("the 71st again", seat.type(' '), FULL);
        due("a full tape is read without it", seat.theatre(), 1);
        due("room again", seat.type('p'), 1);
        still("the 71st", () -> {
            SoldSeat full = busy();
            while (full.type(' ') != FULL) {
                due("not yet full", full.count(0), 3);
            }
            return full;
        }, full -> full.type('9'), FULL);
    }

    @Says(promise = 5, sentence = "of several the first that a call names")
    static void badAheadOfFull() {
        SoldSeat seat = new SoldSeat();
        for (int n = 1; n <= 70; n++) {
            seat.type('p');
        }
        due("letter 31", seat.type(31), BAD);
        due("letter 127", seat.type(127), BAD);
        due("letter 126", seat.type(126), FULL);
    }

    // ---- promise 6: theatre

    @Says(promise = 6, sentence = "THE TAPE, which is empty then, is a THEATRE: how many BUYERS.")
    static void theTapeIsEmptyThen() {
        SoldSeat seat = new SoldSeat();
        due("a theatre", read(seat, "p1,f2"), 2);
        due("empty", seat.type('f'), 1);
        due("a fault", seat.theatre(), -21);
        due("empty", seat.type('f'), 1);
        due("only what was typed since", read(seat, "8"), 1);
        due("its kind", seat.of(0, 0), 1);
        due("what it paid", seat.of(0, 1), 8);
        due("no tape", seat.theatre(), -20);
    }

    @Says(promise = 6, sentence = "A FAULT (all else stays).")
    static void allElseStays() {
        for (String text : new String[] {"", ",", "x", ":", "f8,", "f8,g9:4,x", "f8:0123x", SIX + ",p7"}) {
            still("a fault of [" + text + "]", Bounds::untyped, seat -> read(seat, text) <= -20 ? 1 : 0, 1);
        }
        SoldSeat seat = behind(3, "p7:2,f8");
        due("a fault behind a whole buyer", read(seat, "g9:4,"), -25);
        due("buyers", seat.count(0), 2);
        due("minute", seat.count(1), 3);
        due("sitter", seat.count(2), 0);
        due("kind", seat.of(0, 0), 0);
        due("to be undone", seat.count(6), 3);
    }

    @Says(promise = 6, sentence = "What is refused changes nothing, but as told.")
    static void theTapeAsTold() {
        SoldSeat seat = new SoldSeat();
        due("a fault", read(seat, "p1x"), -22);
        due("the tape is empty, as told", seat.theatre(), -20);
        due("a refused letter", seat.type(31), BAD);
        due("the tape is still empty", seat.theatre(), -20);
        seat.type('p');
        seat.type(127);
        seat.type('1');
        due("a refused letter is not typed", seat.theatre(), 1);
    }

    @Says(promise = 6, sentence = "A THEATRE is a TEXT: 1 to 6 BUYERS with , between")
    static void oneToSixBuyers() {
        fault("", 0);
        fine("p1", 1);
        fine("p1,p2", 2);
        fine(SIX, 6);
        fault(SIX + ",", 17);
        fault(SIX + ",p7", 17);
        fault(SIX + " ,p7", 18);
        fine("d99:01234,d99:01234,d99:01234,d99:01234,d99:01234,d99:01234", 6);
        fault("p1p2", 2);
        fault("p1;p2", 2);
        fault("p1,,p2", 3);
        fault(",p1", 0);
        fault("p1,", 3);
    }

    @Says(promise = 6, sentence = "p f m d g (KINDS in this order)")
    static void kindLetters() {
        String letters = "pfmdg";
        for (char letter = 32; letter < 127; letter++) {
            SoldSeat seat = new SoldSeat();
            int kind = letters.indexOf(letter);
            int place = letter == ' ' ? 1 : 0;
            due("[" + letter + "1]", read(seat, letter + "1"), kind >= 0 ? 1 : -20 - place);
            if (kind >= 0) due("kind of " + letter, seat.of(0, 0), kind);
        }
    }

    @Says(promise = 6, sentence = "a number 0 .. 99 (PAID)")
    static void paid() {
        String[] texts = {"p0", "p9", "p00", "p09", "p10", "p99"};
        int[] wants = {0, 9, 0, 9, 10, 99};
        for (int t = 0; t < texts.length; t++) {
            due("paid of " + texts[t], with(texts[t]).of(0, 1), wants[t]);
        }
        fault("p", 1);
        fault("p/", 1);
        fault("p:", 1);
        fault("p;", 1);
        fault("p-1", 1);
        fault("p,", 1);
        fault("p1/", 2);
        fault("p1;", 2);
    }

    @Says(promise = 6, sentence = "Numbers have 1 or 2 digits (a third one can't stand there).")
    static void oneOrTwoDigits() {
        fine("p9", 1);
        fine("p99", 1);
        fault("p100", 3);
        fault("p000", 3);
        fault("p099", 3);
        fault("f1,p999", 6);
        fault("p9999", 3);
    }

    @Says(promise = 6, sentence = "then perhaps : and one digit or more 0 .. 4, rising (TRICKS)")
    static void risingTricks() {
        String[] texts = {"p1", "p1:0", "p1:4", "p1:04", "p1:13", "p1:01234"};
        int[] wants = {0, 1, 16, 17, 10, 31};
        for (int t = 0; t < texts.length; t++) {
            due("tricks of " + texts[t], with(texts[t]).of(0, 2), wants[t]);
        }
        fault("p1:", 3);
        fault("p1:,p2", 3);
        fault("p1:/", 3);
        fault("p1:5", 3);
        fault("p1:9", 3);
        fault("p1::", 3);
        fault("p1:00", 4);
        fault("p1:10", 4);
        fault("p1:44", 4);
        fault("p1:45", 4);
        fault("p1:010", 5);
        fault("p1:0123 3", 8);
        fault("p1:012344", 8);
        fault("p1:012345", 8);
        fault("p1:0:1", 4);
    }

    @Says(promise = 6, sentence = "in place of all BUYERS; THE SEAT is empty, MINUTE 0, nobody has SEEN (THE DRAW "
        + "stays)")
    static void inPlaceOfAll() {
        SoldSeat seat = with("p1:0,f2:1,m3:2,d4:3,g5:4,p6:0");
        seat.seed(MAX);
        seat.changed(0, 5);
        seat.sent(1);
        seat.minutes(7);
        // What was foretold last must not be left in what is read.
        seat.seen(0, 99);
        due("one", read(seat, "g9"), 1);
        due("buyers", seat.count(0), 1);
        due("minute", seat.count(1), 0);
        due("the seat", seat.count(2), NONE);
        due("nobody sat", seat.count(3), 0);
        due("here", seat.count(5), 1);
        due("tricks", seat.count(7), 0);
        due("seen", seat.of(0, 3), 0);
        due("place", seat.turn(0), 0);
        due("no second buyer", seat.of(1, 0), BAD);
        due("who comes now", seat.buyer(0, 0, 0), 1);
        due("has seen nothing", seat.of(1, 3), 0);
        due("knows nothing", seat.of(1, 2), 0);
        due("the draw", seat.seed(0), MAX);
    }

    @Says(promise = 6, sentence = "FAULTS: -20 less the place of the first letter (behind blanks) that can't stand "
        + "there")
    static void placesOfFaults() {
        fault("x", 0);
        fault("  x", 2);
        fault("p1  x  y", 4);
        fault("p1,  x", 5);
        fault("p1 :  5", 6);
        fault("p  x", 3);
        fault(filled("p1", 69) + "x", 69);
        fault(filled("", 69) + "1", 69);
        fault("P1", 0);
    }

    @Says(promise = 6, sentence = "(the end: how many there are)")
    static void faultsAtTheEnd() {
        fault("", 0);
        fault(" ", 1);
        fault("p", 1);
        fault("p  ", 3);
        fault("p1:", 3);
        fault("p1:  ", 5);
        fault("p1,", 3);
        fault("p1,  ", 5);
        fault(filled("", 70), 70);
        fault(filled("p1,", 70), 70);
        fault(filled("p1:", 70), 70);
        fault(filled("p", 70), 70);
        fault(filled("", 69) + "p", 70);
    }

    @Says(promise = 6, sentence = "blanks count for nothing, but end a number")
    static void blanks() {
        fine(filled("p1", 70), 1);
        fine(filled("", 68) + "p1", 1);
        SoldSeat seat = new SoldSeat();
        due("blanks all over", read(seat, "  d  9  :  0  1  4  ,  p  12  "), 2);
        due("paid", seat.of(0, 1), 9);
        due("tricks", seat.of(0, 2), 19);
        due("paid", seat.of(1, 1), 12);
        due("blanks behind all tricks", read(seat, "p1:01234 , f2:4 "), 2);
        due("blanks among all tricks", read(seat, "p1:0 1 2 3 4 , f2:4 "), 2);
        due("all tricks", seat.of(0, 2), 31);
        fault("p1 2", 3);
        fault("p1 23", 3);
        fault("p12 3", 4);
        fault("p0  0", 4);
    }
}
