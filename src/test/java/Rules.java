import java.io.IOException;
import java.nio.file.Files;
import java.nio.file.Path;
import java.util.Arrays;
import java.util.List;

/** What the document says without naming a boundary, and what is foretold looked at by doing it. */
final class Rules extends Bounds {
    private static final String SIX = "p20:03,f9:1,m50:24,d70:012,g5:34,p33:1";

    private Rules() {
    }

    // ---- buyers, turns

    @Says(promise = 3, sentence = "Of a BUYER: 0 KIND, 1 PAID, 2 TRICKS (a set), 3 how much SEEN")
    static void ofABuyer() {
        SoldSeat seat = with(SIX);
        int[][] wants = {{0, 20, 9}, {1, 9, 2}, {2, 50, 20}, {3, 70, 7}, {4, 5, 24}, {0, 33, 2}};
        for (int b = 0; b < wants.length; b++) {
            for (int what = 0; what < 3; what++) {
                due("of " + b + ", " + what, seat.of(b, what), wants[b][what]);
            }
        }
        // 0 sits in minute 0; 1 ousts 0 by trick 1, as 0 does not know 2; 2 is meek.
        seat.minutes(3);
        int[] seen = {1, 2, 0, 0, 0, 0};
        for (int b = 0; b < seen.length; b++) {
            due("seen by " + b, seat.of(b, 3), seen[b]);
        }
    }

    @Says(promise = 4, sentence = "Who is in a place of TURNS.")
    static void whoIsInAPlace() {
        SoldSeat seat = with(SIX);
        seat.changed(0, 5);
        seat.changed(5, 3);
        int[] places = {5, 1, 2, 0, 4, 3};
        for (int place = 0; place < places.length; place++) {
            due("place " + place, seat.turn(place), places[place]);
            due("its place", seat.of(places[place], 5), place);
        }
    }

    @Says(promise = 7, sentence = "0 BUYERS, 1 the MINUTE")
    static void howManyAndTheMinute() {
        SoldSeat seat = with("p1,f2,m3");
        seat.minutes(40);
        seat.drift(7);
        due("buyers", seat.count(0), 3);
        due("the minute", seat.count(1), 47);
        seat.sent(1);
        seat.undo();
        seat.undo();
        due("who was sent, too", seat.count(0), 3);
        due("the minute, one undone", seat.count(1), 46);
    }

    // ---- what is done

    @Says(promise = 9, sentence = "LEARNT: one knows a TRICK (more).")
    static void oneMoreTrick() {
        SoldSeat seat = with("p1:03,f2:1");
        due("3 more", seat.learnt(1, 3), 10);
        due("it knows them", seat.of(1, 2), 10);
        due("the other one does not", seat.of(0, 2), 9);
        due("all together", seat.count(7), 4);
        due("the minute stays", seat.count(1), 0);
    }

    @Says(promise = 10, sentence = "SENT: one is not HERE any more")
    static void notHereAnyMore() {
        SoldSeat seat = with("p1,p2,p3");
        due("the others", seat.sent(1), 5);
        due("not here", seat.of(1, 4), 0);
        due("keeps its place", seat.turn(1), 1);
        seat.minutes(1);
        due("may not sit", seat.of(1, 6), 0);
        seat.called();
        due("its turn, but it does not sit", seat.minutes(1), NONE);
        due("the next one does", seat.minutes(1), 2);
    }

    @Says(promise = 11, sentence = "CALLED: who it was.")
    static void whoWasCalled() {
        SoldSeat seat = behind(1, "p1:0,p2:1,p3:2");
        due("the first", seat.called(), 0);
        seat.minutes(1);
        due("the second", seat.called(), 1);
        due("still here", seat.count(5), 7);
        due("what was seen stays", seat.of(1, 3), 1);
        due("nothing was spent", seat.count(7), 3);
    }

    @Says(promise = 12, sentence = "CHANGED: two places of TURNS.")
    static void twoPlaces() {
        SoldSeat seat = with("p1,p2,p3,p4");
        due("who is in the first then", seat.changed(1, 3), 3);
        int[] places = {0, 3, 2, 1};
        for (int t = 0; t < 8; t++) {
            due("place " + t % 4, seat.turn(t % 4), places[t % 4]);
            due("turn in minute " + t, seat.count(4), places[t % 4]);
            seat.minutes(1);
        }
    }

    @Says(promise = 14, sentence = "UNDONE: the latest MINUTE, LEARNT, SENT, CALLED, CHANGED is as it had not been")
    static void eachIsUndone() {
        SoldSeat seat = with("p1:0,p2:1,p3:2");
        seat.minutes(2);
        List<Long> was = Looks.now(seat);
        for (int done = 0; done < 6; done++) {
            switch (done) {
                case 0: seat.minutes(1); break;
                case 1: seat.learnt(2, 4); break;
                case 2: seat.sent(1); break;
                case 3: seat.called(); break;
                case 4: seat.changed(0, 2); break;
                default: seat.drift(1); break;
            }
            due("something was done, " + done, Looks.now(seat).equals(was) ? 1 : 0, 0);
            due("two more, " + done, seat.undo(), 2);
            due("as it had not been, " + done, Looks.now(seat).equals(was) ? 1 : 0, 1);
        }
    }

    @Says(promise = 14, sentence = "UNDONE: how many more may be.")
    static void howManyMore() {
        SoldSeat seat = with("p1,p2");
        seat.learnt(0, 0);
        seat.changed(0, 1);
        seat.minutes(2);
        seat.called();
        for (int more = 4; more >= 0; more--) {
            due("more", seat.undo(), more);
            due("what may be undone", seat.count(6), more);
        }
    }

    @Says(promise = 15, sentence = "THE DRAW becomes v: what it was.")
    static void theDrawBecomes() {
        SoldSeat seat = with("p1");
        due("1 at first", seat.seed(77), 1);
        due("77", seat.seed(0), 77);
        seat.drift(1);
        due("12345 behind 0", seat.seed(5), 12345);
        due("nothing to undo more", seat.count(6), 1);
    }

    // ---- foretold

    @Says(promise = 17, sentence = "how much one has SEEN; how many TRICKS all know together.")
    static void foretoldAsItComes() {
        SoldSeat seat = behind(3, SIX);
        SoldSeat twin = behind(3, SIX);
        for (int n = 0; n <= 99; n++) {
            due("sitter behind " + n, seat.ahead(n, 0), twin.count(2));
            due("tricks behind " + n, seat.ahead(n, 1), twin.count(7));
            for (int b = 0; b < 6; b++) {
                due("seen by " + b + " behind " + n, seat.seen(b, n), twin.of(b, 3));
            }
            twin.minutes(1);
        }
    }

    @Says(promise = 19, sentence = "ROUND: which (what 0)")
    static void whichAndLater() {
        // Buyer 0 sits from the first minute on: behind 4 it has sat 4, behind 9 the minute is 4 again by 5.
        SoldSeat seat = with("p1");
        due("which", seat.round(0), 9);
        due("later by", seat.round(1), 5);
        // Both places come round as well as the minutes by 5: by 10.
        SoldSeat two = with("p1,p2");
        due("which of two", two.round(0), 14);
        due("later by, of two", two.round(1), 10);
    }

    private static void deal(SoldSeat seat, int[] order) {
        for (int place = 0; place < order.length; place++) {
            if (seat.turn(place) != order[place]) seat.changed(place, seat.of(order[place], 5));
        }
    }

    @Says(promise = 20, sentence = "how much; who is in the k-th place.")
    static void dealtSoOneSeesSoMuch() {
        for (int n = 1; n <= 40; n += 13) {
            for (int b = 0; b < 6; b++) {
                SoldSeat seat = behind(2, SIX);
                int much = seat.turns(b, n, -1);
                int[] order = new int[6];
                for (int k = 0; k < 6; k++) {
                    order[k] = seat.turns(b, n, k);
                }
                int seen = seat.of(b, 3);
                deal(seat, order);
                seat.minutes(n);
                due("seen by " + b + " in " + n, seat.of(b, 3) - seen, much);
            }
        }
    }

    @Says(promise = 21, sentence = "how far; who is in the k-th place; none (no BUYERS)")
    static void dealtSoTheyAreSoFarApart() {
        for (int n = 1; n <= 40; n += 13) {
            SoldSeat seat = with(SIX);
            int far = seat.fair(n, -1);
            int[] order = new int[6];
            for (int k = 0; k < 6; k++) {
                order[k] = seat.fair(n, k);
            }
            deal(seat, order);
            seat.minutes(n);
            int most = 0;
            int least = n;
            for (int b = 0; b < 6; b++) {
                most = Math.max(most, seat.of(b, 3));
                least = Math.min(least, seat.of(b, 3));
            }
            due("apart in " + n, most - least, far);
        }
    }

    @Says(promise = 22, sentence = "the TRICK that it does not know which, LEARNT now, makes it SEE most in them, ")
    static void learntItSeesMost() {
        for (int n = 1; n <= 40; n += 3) {
            for (int b = 0; b < 6; b++) {
                int best = NONE;
                int most = NONE;
                for (int trick = 0; trick < 5; trick++) {
                    SoldSeat seat = behind(1, SIX);
                    int seen = seat.of(b, 3);
                    if (seat.learnt(b, trick) == NOT) continue;
                    seat.minutes(n);
                    if (seat.of(b, 3) - seen > most) {
                        best = trick;
                        most = seat.of(b, 3) - seen;
                    }
                }
                due("trick of " + b + ", " + n, behind(1, SIX).learn(b, n, 0), best);
                due("how much of " + b + ", " + n, behind(1, SIX).learn(b, n, 1), most);
            }
        }
    }

    @Says(promise = 25, sentence = "OUSTS (a set).")
    static void whomOneWouldOust() {
        SoldSeat seat = behind(1, "p5:3,p5:2,d9:2,g9,p4");
        // Trick 3 is countered by 4, trick 2 by 3; the seat has been sat in for a minute.
        due("3, which nobody counters", seat.ousts(0), 30);
        due("2, which buyer 0 counters", seat.ousts(1), 28);
        due("a duchess who paid more", seat.ousts(2), 27);
        due("a ghost: who know nothing", seat.ousts(3), 16);
        due("plain, and knows nothing", seat.ousts(4), 0);
        due("whom nobody would", seat.safe(), 0);
    }

    @Says(promise = 27, sentence = "MISS: above (what 0), below (1).")
    static void aboveAndBelow() {
        SoldSeat seat = with("p5:3,p5:2");
        // In minute 0 buyer 0 sits by 6 of 10; else buyer 1 does in minute 1, by 6 of 10: 6 of 25.
        due("buyer 0, above", seat.miss(0, 2, 4, 0), 3);
        due("buyer 0, below", seat.miss(0, 2, 4, 1), 5);
        due("buyer 1, above", seat.miss(1, 2, 4, 0), 6);
        due("buyer 1, below", seat.miss(1, 2, 4, 1), 25);
    }

    // ---- sheets

    /** Who sits behind each of eight minutes, if buyer 1 is of a kind. */
    private static long[] sittersBy(char kind) {
        SoldSeat seat = with("p20:1," + kind + "30:02,f9:13");
        long[] sitters = new long[8];
        for (int t = 0; t < sitters.length; t++) {
            sitters[t] = seat.minutes(1);
        }
        return sitters;
    }

    @Says(promise = 30, sentence = "KINDS (a set) of one by which it would be so")
    static void kindsAsTheyWouldSit() {
        String letters = "pfmdg";
        for (char told : letters.toCharArray()) {
            int kinds = 0;
            for (int kind = 0; kind < letters.length(); kind++) {
                if (Arrays.equals(sittersBy(letters.charAt(kind)), sittersBy(told))) kinds |= 1 << kind;
            }
            SoldSeat seat = with("p20:1,p30:02,f9:13");
            tell(seat, 0, 1, sittersBy(told));
            due("kinds by whom all sits as by " + told, seat.stubs(1, 0, 1, 0, 8, 0), kinds);
        }
    }

    @Says(promise = 30, sentence = "STUBS by n items of a SHEET taken as a row of a LANE, from item i on, of a BUYER")
    static void fromItemOn() {
        SoldSeat seat = with("p1,p1");
        tell(seat, 3, 0, 1, 9, 0, 1, 9);
        due("from 2 on: only a ghost ousts", seat.stubs(1, 3, 0, 2, 2, 0), 16);
        due("from 2 on: by any tricks but none", seat.stubs(1, 3, 0, 2, 2, 1), 31);
        due("from 2 on: the least", seat.stubs(1, 3, 0, 2, 2, 2), 1);
        due("from 1 on: nobody is 9", seat.stubs(1, 3, 0, 1, 2, 0), 0);
        due("three of them", seat.stubs(1, 3, 0, 2, 3, 1), 0);
    }

    // ---- the source

    @Says(promise = 1, sentence = "Ahead of the calls `buyer`, `of`, `turn`, `type`, `theatre`, `count` the interface "
        + "says: ---- 1 buyers, turns. Ahead of the calls `minutes`, `learnt`, `sent`, `called`, `changed`, `drift`, "
        + "`undo`, `seed` the interface says: ---- what is done. Ahead of the calls `ahead`, `seen`, `first`, `round`, "
        + "`turns`, `fair`, `learn`, `pay`, `send`, `ousts`, `safe`, `miss`, `image`, `restore` the interface says: "
        + "---- 2 foretold. Ahead of the calls `stubs`, `gaps`, `film`, `sheet`, `drop`, `item`, `copy` the interface "
        + "says: ---- 3 sheets 0 .. 3: nothing (at first), or a row of a LANE: 0 bytes, 1 shorts, 2 ints, 3 longs, of "
        + "0 to 24 items.")
    static void whatTheInterfaceSays() throws IOException, ReflectiveOperationException {
        String said = Rules.class.getDeclaredMethod("whatTheInterfaceSays").getAnnotation(Says.class).sentence();
        String source = Files.readString(Path.of("src/main/java/SoldSeat.java"));
        int at = 0;
        for (String part : said.split("Ahead of the calls ")) {
            if (part.isEmpty()) continue;
            String[] calls = part.substring(0, part.indexOf(" the interface")).replace("`", "").split(", ");
            String words = part.substring(part.indexOf("----")).trim();
            at = follows(source, "    // " + words.substring(0, words.length() - 1) + "\n", at);
            for (String call : calls) {
                at = follows(source, "    public " + (call.equals("gaps") ? "long " : "int ") + call + "(", at);
            }
        }
    }

    private static int follows(String source, String words, int from) {
        int at = source.indexOf(words, from);
        due("stands in its order: " + words.trim(), at >= 0 ? 1 : 0, 1);
        return Math.max(at, from);
    }
}
