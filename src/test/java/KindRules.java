/** Who may sit, by kind, for all sets of tricks: what stands in the terms of promise 3 without naming a boundary. */
final class KindRules extends Bounds {
    private static final int PLAIN = 0, FRIEND = 1, MEEK = 2, DUCHESS = 3, GHOST = 4;
    private static final int SETS = 32;

    private KindRules() {
    }

    /** Buyer 0, who paid 50, has sat from minute 0 on; the other one comes then. */
    private static SoldSeat sitting(int sittersTricks, int minutes, int kind, int paid, int tricks) {
        SoldSeat seat = new SoldSeat();
        seat.buyer(PLAIN, 50, sittersTricks);
        seat.minutes(minutes);
        seat.buyer(kind, paid, tricks);
        return seat;
    }

    private static boolean knows(int set, int trick) {
        return (set >> trick & 1) == 1;
    }

    /** The least trick of a set that is not countered, written out trick by trick, or NONE. */
    private static int leastOpen(int set, int sitters) {
        if (knows(set, 0) && !knows(sitters, 1)) return 0;
        if (knows(set, 1) && !knows(sitters, 2)) return 1;
        if (knows(set, 2) && !knows(sitters, 3)) return 2;
        if (knows(set, 3) && !knows(sitters, 4)) return 3;
        if (knows(set, 4) && !knows(sitters, 0)) return 4;
        return NONE;
    }

    /** As the document says it, kind by kind, none by way of another. */
    private static boolean may(int kind, int paid, int tricks, int sitters, int minute) {
        boolean open = leastOpen(tricks, sitters) != NONE;
        switch (kind) {
            case PLAIN: return open;
            case FRIEND: return open || minute == 5 || minute == 10;
            case MEEK: return open && minute >= 4;
            case DUCHESS: return open || minute == 5 || minute == 10 || paid > 50;
            default: return (open && minute >= 4) || sitters == 0;
        }
    }

    @Says(promise = 3, sentence = "MAY SIT, THE SEAT not being empty, by KIND")
    static void byKindForAllSets() {
        for (int kind = PLAIN; kind <= GHOST; kind++) {
            for (int sitters = 0; sitters < SETS; sitters++) {
                for (int tricks = 0; tricks < SETS; tricks++) {
                    int minute = 1 + (7 * sitters + 3 * tricks) % 10;
                    int paid = 49 + (sitters + tricks) % 3;
                    int want = may(kind, paid, tricks, sitters, minute) ? 1 : 0;
                    due("kind " + kind + ", paid " + paid + ", tricks " + tricks + ", sitter's " + sitters
                        + ", minute " + minute, sitting(sitters, minute, kind, paid, tricks).of(1, 6), want);
                }
            }
        }
    }

    private static void alike(int kind, int other, int minute, int paid, int firstSet) {
        for (int sitters = firstSet; sitters < SETS; sitters++) {
            for (int tricks = 0; tricks < SETS; tricks++) {
                due("kinds " + kind + ", " + other + ", sitter's " + sitters + ", tricks " + tricks + ", minute "
                    + minute, sitting(sitters, minute, kind, paid, tricks).of(1, 6),
                    sitting(sitters, minute, other, paid, tricks).of(1, 6));
            }
        }
    }

    @Says(promise = 3, sentence = "Below it 1 FRIEND: as PLAIN")
    static void aFriendAsPlain() {
        alike(FRIEND, PLAIN, 1, 99, 0);
        alike(FRIEND, PLAIN, 4, 99, 0);
    }

    @Says(promise = 3, sentence = "3 DUCHESS (below FRIEND): as FRIEND")
    static void aDuchessAsFriend() {
        alike(DUCHESS, FRIEND, 1, 50, 0);
        alike(DUCHESS, FRIEND, 5, 50, 0);
        alike(DUCHESS, FRIEND, 4, 0, 0);
    }

    @Says(promise = 3, sentence = "4 GHOST (below MEEK): as MEEK")
    static void aGhostAsMeek() {
        alike(GHOST, MEEK, 3, 99, 1);
        alike(GHOST, MEEK, 4, 99, 1);
        alike(GHOST, MEEK, 5, 99, 1);
    }

    @Says(promise = 8, sentence = "A MINUTE: if it is the TURN of one who MAY SIT")
    static void whoseTurnItIsAndWhoMay() {
        // In minutes 2 and 4 it is the turn of buyer 0, though buyer 1 may sit.
        for (int minute = 1; minute <= 4; minute++) {
            SoldSeat seat = sitting(0, minute, PLAIN, 50, 31);
            due("buyer 1 may sit", seat.of(1, 6), 1);
            due("in minute " + minute, seat.minutes(1), minute % 2);
        }
        SoldSeat meek = sitting(0, 3, MEEK, 50, 31);
        due("its turn, but it may not", meek.minutes(1), 0);
        due("it may, but it is not its turn", meek.minutes(1), 0);
        due("its turn, and it may", meek.minutes(1), 1);
    }

    @Says(promise = 8, sentence = "and it knows a TRICK that was not COUNTERED, the least such is spent")
    static void whatIsSpentForAllSets() {
        for (int sitters = 0; sitters < SETS; sitters++) {
            for (int tricks = 0; tricks < SETS; tricks++) {
                SoldSeat seat = sitting(sitters, 1, DUCHESS, 51, tricks);
                int least = leastOpen(tricks, sitters);
                String what = "tricks " + tricks + ", sitter's " + sitters;
                due(what + ": a duchess who paid more sits", seat.minutes(1), 1);
                due(what + ": what is left", seat.of(1, 2), least == NONE ? tricks : tricks - (1 << least));
                due(what + ": the other keeps all", seat.of(0, 2), sitters);
            }
        }
    }
}
