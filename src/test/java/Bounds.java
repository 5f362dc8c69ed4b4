import java.util.ArrayList;
import java.util.List;
import java.util.function.IntToLongFunction;
import java.util.function.Supplier;
import java.util.function.ToLongFunction;

/** What the tests of the document's sentences share. */
abstract class Bounds {
    static final int BAD = -1, NOT = -2, FULL = -3, NONE = -4, NULL = -11, CAST = -12, INDEX = -13, SIZE = -14;
    static final int MIN = Integer.MIN_VALUE, MAX = Integer.MAX_VALUE;
    static final Checks CHECKS = new Checks("SentencesTest");

    private static String looking = "";

    /** What is looked at from here on, for the report. */
    static void lookAt(Says says) {
        looking = "promise " + says.promise() + ", \"" + says.sentence() + "\": ";
    }

    static void due(String what, long got, long want) {
        CHECKS.due(looking + what, got, want);
    }

    static int read(SoldSeat seat, String text) {
        for (char letter : text.toCharArray()) {
            seat.type(letter);
        }
        return seat.theatre();
    }

    static SoldSeat with(String text) {
        SoldSeat seat = new SoldSeat();
        int got = read(seat, text);
        if (got < 1) due("theatre " + text, got, 1);
        return seat;
    }

    static SoldSeat behind(int minutes, String text) {
        SoldSeat seat = with(text);
        pass(seat, minutes);
        return seat;
    }

    static void pass(SoldSeat seat, int minutes) {
        for (int left = minutes; left > 0; left -= 40) {
            seat.minutes(Math.min(left, 40));
        }
    }

    static void tell(SoldSeat seat, int sheet, int lane, long... items) {
        seat.sheet(sheet, lane, items.length);
        for (int i = 0; i < items.length; i++) {
            seat.item(sheet, lane, i, items[i]);
        }
    }

    /** The items, each 1 to 99 (NOT for others), as gaps tells them. */
    static void holds(String what, SoldSeat seat, int sheet, int lane, long... items) {
        for (int i = 0; i < items.length; i++) {
            due(what + ", item " + i, seat.gaps(sheet, lane, i, 1, 0, 0), items[i]);
        }
        due(what + ", no item " + items.length, seat.gaps(sheet, lane, items.length, 1, 0, 0), INDEX);
    }

    /** The last numbers that are taken and the first that are refused, on either side. */
    static void range(String what, int low, int high, IntToLongFunction call) {
        for (int v : new int[] {low, high}) {
            due(what + " " + v + " is refused", call.applyAsLong(v) == BAD ? 1 : 0, 0);
        }
        for (int v : new int[] {low - 1, high + 1, MIN, MAX}) {
            due(what + " " + v, call.applyAsLong(v), BAD);
        }
    }

    /** Has something of all that a refused call could change; sheet 3 holds nothing, the tape "p7". */
    static SoldSeat busy() {
        SoldSeat seat = untyped();
        seat.type('p');
        seat.type('7');
        return seat;
    }

    /** As busy, but the tape is empty. */
    static SoldSeat untyped() {
        SoldSeat seat = with("p20:03,f9:1,d70:24");
        seat.changed(0, 2);
        seat.minutes(1);
        seat.image();
        seat.seed(12345);
        seat.learnt(1, 4);
        seat.drift(1);
        tell(seat, 0, 0, 11, 12, 13);
        tell(seat, 1, 1, 21, 22);
        tell(seat, 2, 0, 31, 32, 33, 34);
        return seat;
    }

    /** That a call answers so, and that all is as if it had not been made. */
    static void still(String what, Supplier<SoldSeat> made, ToLongFunction<SoldSeat> call, long want) {
        SoldSeat asked = made.get();
        due(what, call.applyAsLong(asked), want);
        due(what + " changes something", Looks.everything(asked).equals(Looks.everything(made.get())) ? 0 : 1, 0);
    }

    static void still(String what, ToLongFunction<SoldSeat> call, long want) {
        still(what, Bounds::busy, call, want);
    }

    /** That a call that is answered changes nothing. */
    static void still(String what, ToLongFunction<SoldSeat> call) {
        long answer = call.applyAsLong(busy());
        due(what + " is refused", answer == BAD ? 1 : 0, 0);
        still(what, call, answer);
    }

    /** Looks at all that an object holds, using it up. */
    static final class Looks {
        private final SoldSeat seat;
        private final List<Long> seen = new ArrayList<>();

        private Looks(SoldSeat seat) {
            this.seat = seat;
        }

        static List<Long> everything(SoldSeat seat) {
            Looks looks = new Looks(seat);
            looks.atSheets();
            looks.atNowAndThePast();
            looks.add(seat.restore());
            looks.atNowAndThePast();
            looks.add(seat.type(' '));
            looks.add(seat.theatre());
            looks.atNow();
            return looks.seen;
        }

        static List<Long> now(SoldSeat seat) {
            Looks looks = new Looks(seat);
            looks.atNow();
            return looks.seen;
        }

        private void add(long answer) {
            seen.add(answer);
        }

        private void atNow() {
            for (int what = 0; what < 8; what++) {
                add(seat.count(what));
            }
            for (int b = 0; b < seat.count(0); b++) {
                for (int what = 0; what < 7; what++) {
                    add(seat.of(b, what));
                }
                add(seat.turn(b));
            }
            int draw = seat.seed(0);
            seat.seed(draw);
            add(draw);
        }

        private void atNowAndThePast() {
            atNow();
            for (int i = 0; i <= 8 && seat.undo() >= 0; i++) {
                atNow();
            }
        }

        private void atSheets() {
            for (int sheet = 0; sheet < 4; sheet++) {
                for (int lane = 0; lane < 4; lane++) {
                    long answer = 0;
                    for (int i = 0; answer >= 0 || answer == NOT; i++) {
                        answer = seat.gaps(sheet, lane, i, 1, 0, 0);
                        add(answer);
                    }
                }
            }
        }
    }
}
