/** Boundaries of what is told by sheets, and of sheets: promises 30 to 36. */
final class SheetBounds extends Bounds {
    private SheetBounds() {
    }

    private static SoldSeat withRow(String text, long... items) {
        SoldSeat seat = with(text);
        tell(seat, 0, 2, items);
        return seat;
    }

    private static long[] row(int size, long item) {
        long[] row = new long[size];
        java.util.Arrays.fill(row, item);
        return row;
    }

    // ---- promise 30: stubs

    @Says(promise = 30, sentence = "BAD;")
    static void stubsRefused() {
        SoldSeat seat = withRow("p1,p2", row(9, 0));
        range("buyer", 0, 1, v -> seat.stubs(v, 0, 2, 0, 1, 0));
        range("sheet", 0, 3, v -> seat.stubs(0, v, 2, 0, 1, 0));
        range("lane", 0, 3, v -> seat.stubs(0, 0, v, 0, 1, 0));
        range("n", 1, 8, v -> seat.stubs(0, 0, 2, 0, v, 0));
        range("what", 0, 2, v -> seat.stubs(0, 0, 2, 0, 1, v));
        still("buyer 3", busy -> busy.stubs(3, 0, 0, 0, 1, 0), BAD);
        still("sheet 4", busy -> busy.stubs(0, 4, 0, 0, 1, 0), BAD);
        still("n 9", busy -> busy.stubs(0, 0, 0, 0, 9, 0), BAD);
    }

    @Says(promise = 30, sentence = "NULL;")
    static void stubsOfNothing() {
        SoldSeat seat = with("p1");
        for (int sheet = 0; sheet < 4; sheet++) {
            due("sheet " + sheet, seat.stubs(0, sheet, 0, 0, 1, 0), NULL);
        }
        due("bad ahead of null: buyer", seat.stubs(1, 0, 0, 0, 1, 0), BAD);
        due("bad ahead of null: lane", seat.stubs(0, 0, 4, 0, 1, 0), BAD);
        due("bad ahead of null: n", seat.stubs(0, 0, 0, 0, 0, 0), BAD);
        due("bad ahead of null: what", seat.stubs(0, 0, 0, 0, 1, 3), BAD);
        due("null ahead of index", seat.stubs(0, 0, 0, -1, 8, 0), NULL);
    }

    @Says(promise = 30, sentence = "CAST;")
    static void stubsOfAnotherLane() {
        SoldSeat seat = with("p1");
        for (int lane = 0; lane < 4; lane++) {
            tell(seat, lane, lane, 0);
            for (int taken = 0; taken < 4; taken++) {
                due(lane + " taken as " + taken, seat.stubs(0, lane, taken, 0, 1, 0), taken == lane ? 31 : CAST);
            }
        }
        due("cast ahead of index", seat.stubs(0, 0, 1, 1, 1, 0), CAST);
        due("bad ahead of cast", seat.stubs(0, 0, 1, 0, 9, 0), BAD);
    }

    @Says(promise = 30, sentence = "INDEX.")
    static void stubsBeyondTheRow() {
        SoldSeat seat = withRow("p1", row(24, 0));
        due("the first eight", seat.stubs(0, 0, 2, 0, 8, 0), 31);
        due("the last eight", seat.stubs(0, 0, 2, 16, 8, 0), 31);
        due("one beyond", seat.stubs(0, 0, 2, 17, 8, 0), INDEX);
        due("the last one", seat.stubs(0, 0, 2, 23, 1, 0), 31);
        due("behind the last", seat.stubs(0, 0, 2, 24, 1, 0), INDEX);
        due("ahead of the first", seat.stubs(0, 0, 2, -1, 1, 0), INDEX);
        due("the least int", seat.stubs(0, 0, 2, MIN, 8, 0), INDEX);
        due("the greatest int", seat.stubs(0, 0, 2, MAX, 8, 0), INDEX);
        seat.sheet(0, 2, 0);
        due("an empty row", seat.stubs(0, 0, 2, 0, 1, 0), INDEX);
        still("beyond", busy -> busy.stubs(0, 0, 0, 1, 3, 1), INDEX);
    }

    @Says(promise = 30, sentence = "STUBS: a row tells who is THE SITTER behind each of the next n MINUTES (1 .. 8; "
        + "-4: nobody)")
    static void oneToEightMinutes() {
        SoldSeat seat = withRow("p1", 0, 0, 0, 0, 0, 0, 0, -4);
        due("seven are so", seat.stubs(0, 0, 2, 0, 7, 0), 31);
        due("the eighth is not", seat.stubs(0, 0, 2, 0, 8, 0), 0);
        due("nobody is not so", seat.stubs(0, 0, 2, 7, 1, 0), 0);
        for (int lane = 0; lane < 4; lane++) {
            SoldSeat home = with("p1,p2");
            home.sent(0);
            tell(home, 0, lane, -4, 1, 1, 1, 1, 1, 1, 1);
            due("nobody, then buyer 1", home.stubs(0, 0, lane, 0, 8, 0), 31);
            due("nobody, then buyer 1", home.stubs(1, 0, lane, 0, 8, 1), 32);
        }
        for (long item : new long[] {-5, -3, -2, -1, 1, 6, 1L << 32}) {
            SoldSeat other = with("p1");
            tell(other, 0, 3, item);
            due("item " + item, other.stubs(0, 0, 3, 0, 1, 0), 0);
        }
    }

    @Says(promise = 30, sentence = "KINDS (what 0), how many sets (1), the least (2; NONE)")
    static void kindsFromNoneToAll() {
        due("none", withRow("p1,p1", 1).stubs(0, 0, 2, 0, 1, 0), 0);
        due("all", withRow("p1,p1", 0).stubs(0, 0, 2, 0, 1, 0), 31);
        // In minute 1, sat 1, the sitter knowing no tricks and having paid as much, only a ghost ousts.
        due("the last alone", withRow("p1,p1", 0, 1).stubs(1, 0, 2, 0, 2, 0), 16);
        due("all but the last", withRow("p1,p1", 0, 0).stubs(1, 0, 2, 0, 2, 0), 15);
        due("by one more paid", withRow("p1,p2", 0, 1).stubs(1, 0, 2, 0, 2, 0), 24);
    }

    @Says(promise = 30, sentence = "sets of TRICKS (0 .. 31), known to it now, by which it would be: how many; the "
        + "least; none.")
    static void setsFromNoneToAll() {
        int[][] wants = {{0, NONE}, {1, 0}, {31, 1}, {1, 31}, {31, 0}, {32, 0}};
        SoldSeat[] seats = {withRow("p1", 1), withRow("p1,g1", 0, 1), withRow("p1,g1", 0, 0),
            withRow("p1,p1:01234", 0, 0), withRow("p1,p1:01234", 0, 1), withRow("p1", 0, 0)};
        for (int s = 0; s < seats.length; s++) {
            int n = s == 0 ? 1 : 2;
            due("how many of " + s, seats[s].stubs(0, 0, 2, 0, n, 1), wants[s][0]);
            due("the least of " + s, seats[s].stubs(0, 0, 2, 0, n, 2), wants[s][1]);
        }
    }

    // ---- promise 31: gaps

    @Says(promise = 31, sentence = "BAD (m 0, what 1, too);")
    static void gapsRefused() {
        SoldSeat seat = new SoldSeat();
        tell(seat, 0, 2, 1, 2, 3, 4, 5, 6, 7, 8, 9);
        range("sheet", 0, 3, v -> seat.gaps(v, 2, 0, 1, 0, 0));
        range("lane", 0, 3, v -> seat.gaps(0, v, 0, 1, 0, 0));
        range("what", 0, 1, v -> seat.gaps(0, 2, 0, 1, 9, v));
        due("m 0, what 0", seat.gaps(0, 2, 0, 1, 0, 0), 1);
        due("m 0, what 1", seat.gaps(0, 2, 0, 1, 0, 1), BAD);
        due("m 1, what 1", seat.gaps(0, 2, 0, 1, 1, 1), 1);
        still("n 9", busy -> busy.gaps(0, 0, 0, 9, 0, 0), BAD);
    }

    @Says(promise = 31, sentence = "GAPS: a row tells numbers of n TICKETS (1 .. 8) that were seen")
    static void oneToEightTickets() {
        SoldSeat seat = new SoldSeat();
        tell(seat, 0, 2, 1, 2, 3, 4, 5, 6, 7, 8, 9);
        range("n", 1, 8, v -> seat.gaps(0, 2, 0, v, 0, 0));
        range("n by m", 1, 8, v -> seat.gaps(0, 2, 0, v, 9, 0));
        due("one", seat.gaps(0, 2, 0, 1, 0, 0), 1);
        due("eight", seat.gaps(0, 2, 1, 8, 0, 0), 9);
    }

    @Says(promise = 31, sentence = "GAPS by n items of a SHEET (1 .. 8) likewise: the least (m 0, what 0); by m "
        + "(1 .. 99) above (what 0), below (1).")
    static void byMore() {
        SoldSeat seat = new SoldSeat();
        tell(seat, 0, 2, 1, 2, 99);
        range("m, or none", 0, 99, v -> seat.gaps(0, 2, 0, 1, v, 0));
        due("1 of 1", seat.gaps(0, 2, 0, 1, 1, 0), 1);
        due("1 of 1", seat.gaps(0, 2, 0, 1, 1, 1), 1);
        due("1 of 99", seat.gaps(0, 2, 0, 1, 99, 0), 1);
        due("1 of 99", seat.gaps(0, 2, 0, 1, 99, 1), 99);
        due("99 of 99", seat.gaps(0, 2, 2, 1, 99, 1), 1);
    }

    @Says(promise = 31, sentence = "of those that were sold, numbered from 1 on (none twice): the least how many "
        + "were sold")
    static void theLeastSold() {
        SoldSeat seat = new SoldSeat();
        tell(seat, 0, 0, 1, 99, 50, 50);
        due("1", seat.gaps(0, 0, 0, 1, 0, 0), 1);
        due("99", seat.gaps(0, 0, 1, 1, 0, 0), 99);
        due("the greatest told", seat.gaps(0, 0, 0, 3, 0, 0), 99);
        due("one twice", seat.gaps(0, 0, 2, 2, 0, 0), NOT);
    }

    @Says(promise = 31, sentence = "if m were (1 .. 99): how likely n of these, seen by chance, have no greater "
        + "number than "
        + "the greatest told: a fraction in lowest terms")
    static void howLikely() {
        SoldSeat seat = new SoldSeat();
        tell(seat, 0, 2, 1, 2, 3, 4, 5, 6, 7, 8);
        // 8 over 8 is 1; 99 over 8 is 171200862756, above all ints.
        due("the least chance, above", seat.gaps(0, 2, 0, 8, 99, 0), 1);
        due("the least chance, below", seat.gaps(0, 2, 0, 8, 99, 1), 171200862756L);
        due("for certain, above", seat.gaps(0, 2, 0, 8, 8, 0), 1);
        due("for certain, below", seat.gaps(0, 2, 0, 8, 8, 1), 1);
        // 98 over 8 by 99 over 8 is 91 by 99.
        tell(seat, 1, 2, 98, 1, 2, 3, 4, 5, 6, 7);
        due("the greatest chance, above", seat.gaps(1, 2, 0, 8, 99, 0), 91);
        due("the greatest chance, below", seat.gaps(1, 2, 0, 8, 99, 1), 99);
        // 3 over 2 is 3, 4 over 2 is 6: 1 by 2.
        due("lowest terms, above", seat.gaps(0, 2, 1, 2, 4, 0), 1);
        due("lowest terms, below", seat.gaps(0, 2, 1, 2, 4, 1), 2);
    }

    @Says(promise = 31, sentence = "NULL; CAST; INDEX;")
    static void gapsOfOtherRows() {
        SoldSeat seat = new SoldSeat();
        tell(seat, 0, 1, row(24, 7));
        seat.item(0, 1, 23, 99);
        due("nothing", seat.gaps(1, 1, 0, 1, 0, 0), NULL);
        due("null ahead of index", seat.gaps(1, 1, -1, 1, 0, 0), NULL);
        due("bad ahead of null", seat.gaps(1, 1, 0, 1, 0, 1), BAD);
        due("another lane", seat.gaps(0, 2, 0, 1, 0, 0), CAST);
        due("cast ahead of index", seat.gaps(0, 2, 24, 1, 0, 0), CAST);
        due("bad ahead of cast", seat.gaps(0, 2, 0, 9, 0, 0), BAD);
        due("the first", seat.gaps(0, 1, 0, 1, 0, 0), 7);
        due("the last", seat.gaps(0, 1, 23, 1, 0, 0), 99);
        due("behind the last", seat.gaps(0, 1, 24, 1, 0, 0), INDEX);
        due("one beyond", seat.gaps(0, 1, 17, 8, 0, 0), INDEX);
        due("the last eight", seat.gaps(0, 1, 16, 8, 0, 0), NOT);
        due("ahead of the first", seat.gaps(0, 1, -1, 1, 0, 0), INDEX);
        due("the least int", seat.gaps(0, 1, MIN, 8, 0, 0), INDEX);
        due("the greatest int", seat.gaps(0, 1, MAX, 8, 0, 0), INDEX);
        due("bad ahead of index", seat.gaps(0, 1, 24, 1, 100, 0), BAD);
        seat.sheet(0, 1, 0);
        due("an empty row", seat.gaps(0, 1, 0, 1, 0, 0), INDEX);
    }

    @Says(promise = 31, sentence = "NOT: an item is below 1, above 99, told twice, above m (m not 0).")
    static void noTickets() {
        SoldSeat seat = new SoldSeat();
        tell(seat, 0, 3, 0, 1, 99, 100, 1, -1, 1L << 32 | 5);
        int[] wants = {NOT, 1, 99, NOT, 1, NOT, NOT};
        for (int i = 0; i < wants.length; i++) {
            due("item " + i, seat.gaps(0, 3, i, 1, 0, 0), wants[i]);
            due("item " + i + " of 99", seat.gaps(0, 3, i, 1, 99, 1), wants[i] == 99 ? 1 : wants[i] == 1 ? 99 : NOT);
        }
        due("two", seat.gaps(0, 3, 1, 2, 0, 0), 99);
        due("the first is none", seat.gaps(0, 3, 0, 2, 0, 0), NOT);
        due("the last is none", seat.gaps(0, 3, 1, 3, 0, 0), NOT);
        tell(seat, 1, 3, 5, 6, 7, 5);
        due("none twice", seat.gaps(1, 3, 0, 3, 0, 0), 7);
        due("the first and the last alike", seat.gaps(1, 3, 0, 4, 0, 0), NOT);
        due("twice alike by m", seat.gaps(1, 3, 0, 4, 9, 0), NOT);
        due("as m", seat.gaps(1, 3, 0, 3, 7, 1), 1);
        due("above m", seat.gaps(1, 3, 0, 3, 6, 1), NOT);
        due("above m, the greatest in the middle", seat.gaps(1, 3, 1, 3, 6, 0), NOT);
        due("index ahead of not", seat.gaps(0, 3, 3, 5, 0, 0), INDEX);
    }

    // ---- promise 32: film

    @Says(promise = 32, sentence = "BAD;")
    static void filmRefused() {
        SoldSeat seat = with("p1");
        seat.sheet(0, 2, 24);
        range("sheet", 0, 3, v -> seat.film(1, v, 2, 0));
        range("lane", 0, 3, v -> seat.film(1, 0, v, 0));
        still("n 0", busy -> busy.film(0, 0, 0, 0), BAD);
        still("n 25", busy -> busy.film(25, 0, 0, 0), BAD);
        still("sheet 4", busy -> busy.film(1, 4, 0, 0), BAD);
    }

    @Says(promise = 32, sentence = "THE SITTER (-4: nobody) behind 1, 2, .. n MINUTES (1 .. 24), an item each, "
        + "comes to a "
        + "SHEET likewise: n.")
    static void filmOfOneToTwentyFour() {
        SoldSeat seat = with("p1,f1");
        seat.sheet(0, 2, 24);
        range("n", 1, 24, v -> seat.film(v, 0, 2, 0));
        due("24", seat.film(24, 0, 2, 0), 24);
        // The friend ousts in minute 5, so it sits behind 6 minutes and later.
        holds("24", seat, 0, 2, NOT, NOT, NOT, NOT, NOT, 1, 1, 1, 1, 1, 1, 1, 1, 1, 1, 1, 1, 1, 1, 1, 1, 1, 1, 1);
        tell(seat, 1, 0, 9, 9, 9);
        due("one", seat.film(1, 1, 0, 1), 1);
        holds("one", seat, 1, 0, 9, NOT, 9);
        for (int lane = 0; lane < 4; lane++) {
            SoldSeat nobody = with("p1");
            nobody.sent(0);
            nobody.sheet(0, lane, 8);
            due("nobody", nobody.film(8, 0, lane, 0), 8);
            due("nobody is -4", nobody.stubs(0, 0, lane, 0, 8, 1), 32);
        }
        SoldSeat empty = new SoldSeat();
        empty.sheet(0, 0, 24);
        due("without buyers", empty.film(24, 0, 0, 0), 24);
        due("nothing passed", seat.count(1), 0);
    }

    @Says(promise = 32, sentence = "NULL; CAST; INDEX.")
    static void filmElsewhere() {
        still("nothing", busy -> busy.film(1, 3, 0, 0), NULL);
        still("null ahead of index", busy -> busy.film(1, 3, 0, -1), NULL);
        still("bad ahead of null", busy -> busy.film(25, 3, 0, 0), BAD);
        still("another lane", busy -> busy.film(1, 0, 1, 0), CAST);
        still("cast ahead of index", busy -> busy.film(1, 0, 1, 3), CAST);
        still("one beyond", busy -> busy.film(3, 0, 0, 1), INDEX);
        still("far beyond", busy -> busy.film(24, 0, 0, 0), INDEX);
        still("behind the last", busy -> busy.film(1, 0, 0, 3), INDEX);
        still("ahead of the first", busy -> busy.film(1, 0, 0, -1), INDEX);
        still("partly ahead of the first", busy -> busy.film(3, 0, 0, -1), INDEX);
        still("the least int", busy -> busy.film(24, 0, 0, MIN), INDEX);
        still("the greatest int", busy -> busy.film(24, 0, 0, MAX), INDEX);
        SoldSeat seat = busy();
        due("all of it", seat.film(3, 0, 0, 0), 3);
        due("the last", seat.film(1, 0, 0, 2), 1);
        seat.sheet(0, 0, 0);
        due("an empty row", seat.film(1, 0, 0, 0), INDEX);
    }

    // ---- promise 33: sheet

    @Says(promise = 33, sentence = "BAD: also n above 24;")
    static void sheetRefused() {
        range("sheet", 0, 3, v -> new SoldSeat().sheet(v, 0, 1));
        range("lane", 0, 3, v -> new SoldSeat().sheet(0, v, 1));
        due("24", new SoldSeat().sheet(0, 0, 24), 24);
        still("25", busy -> busy.sheet(0, 0, 25), BAD);
        still("the greatest int", busy -> busy.sheet(0, 0, MAX), BAD);
        still("sheet 4", busy -> busy.sheet(4, 0, 1), BAD);
        still("lane 4", busy -> busy.sheet(0, 4, 1), BAD);
    }

    @Says(promise = 33, sentence = "SIZE: n below 0.")
    static void belowNone() {
        still("-1", busy -> busy.sheet(0, 0, -1), SIZE);
        still("the least int", busy -> busy.sheet(0, 0, MIN), SIZE);
        still("-1, where nothing is", busy -> busy.sheet(3, 0, -1), SIZE);
        due("none", new SoldSeat().sheet(0, 0, 0), 0);
        due("bad ahead of size: sheet", new SoldSeat().sheet(4, 0, -1), BAD);
        due("bad ahead of size: lane", new SoldSeat().sheet(0, -1, -1), BAD);
    }

    @Says(promise = 33, sentence = "sheets 0 .. 3: nothing (at first), or a row of a LANE: 0 bytes, 1 shorts, 2 "
        + "ints, 3 longs, "
        + "of 0 to 24 items")
    static void noneToTwentyFourItems() {
        for (int sheet = 0; sheet < 4; sheet++) {
            for (int lane = 0; lane < 4; lane++) {
                SoldSeat seat = new SoldSeat();
                due("nothing at first", seat.gaps(sheet, lane, 0, 1, 0, 0), NULL);
                due("an empty row", seat.sheet(sheet, lane, 0), 0);
                due("no item 0", seat.item(sheet, lane, 0, 1), INDEX);
                due("a full row", seat.sheet(sheet, lane, 24), 24);
                due("item 23", seat.item(sheet, lane, 23, 1), 1);
                due("no item 24", seat.item(sheet, lane, 24, 1), INDEX);
                for (int other = 0; other < 4; other++) {
                    if (other != sheet) due("the others", seat.drop(other), NULL);
                }
            }
        }
    }

    @Says(promise = 33, sentence = "A SHEET holds a new row of a LANE: n.")
    static void aNewRow() {
        SoldSeat seat = new SoldSeat();
        tell(seat, 0, 2, 7, 8, 9);
        due("as long", seat.sheet(0, 2, 3), 3);
        holds("new", seat, 0, 2, NOT, NOT, NOT);
        due("items of a new row are 0", with("p1").sheet(0, 2, 3), 3);
        SoldSeat zeros = with("p1");
        tell(zeros, 0, 2, 5, 5);
        zeros.sheet(0, 2, 2);
        due("0 is buyer 0", zeros.stubs(0, 0, 2, 0, 2, 1), 32);
        tell(seat, 0, 2, 7, 8, 9);
        due("of another lane", seat.sheet(0, 3, 2), 2);
        due("no ints any more", seat.gaps(0, 2, 0, 1, 0, 0), CAST);
        holds("shorter", seat, 0, 3, NOT, NOT);
    }

    // ---- promise 34: drop

    @Says(promise = 34, sentence = "BAD;")
    static void dropRefused() {
        range("sheet", 0, 3, v -> new SoldSeat().drop(v));
        still("sheet 4", busy -> busy.drop(4), BAD);
        still("sheet -1", busy -> busy.drop(-1), BAD);
    }

    @Says(promise = 34, sentence = "NULL.")
    static void nothingToDrop() {
        still("nothing", busy -> busy.drop(3), NULL);
        SoldSeat seat = busy();
        due("dropped", seat.drop(0), 3);
        due("again", seat.drop(0), NULL);
    }

    @Says(promise = 34, sentence = "A SHEET holds nothing: how many items it had.")
    static void howManyItHad() {
        for (int n : new int[] {0, 1, 23, 24}) {
            SoldSeat seat = new SoldSeat();
            seat.sheet(2, 1, n);
            due("of " + n, seat.drop(2), n);
            due("nothing then", seat.item(2, 1, 0, 0), NULL);
            due("another row", seat.sheet(2, 1, 1), 1);
            due("of another", seat.drop(2), 1);
        }
    }

    // ---- promise 35: item

    @Says(promise = 35, sentence = "BAD;")
    static void itemRefused() {
        SoldSeat seat = new SoldSeat();
        seat.sheet(0, 2, 1);
        range("sheet", 0, 3, v -> seat.item(v, 2, 0, 0));
        range("lane", 0, 3, v -> seat.item(0, v, 0, 0));
        still("sheet 4", busy -> busy.item(4, 0, 0, 5), BAD);
        still("lane 4", busy -> busy.item(0, 4, 0, 5), BAD);
    }

    @Says(promise = 35, sentence = "NULL; CAST; INDEX.")
    static void itemElsewhere() {
        still("nothing", busy -> busy.item(3, 0, 0, 5), NULL);
        still("null ahead of index", busy -> busy.item(3, 0, -1, 5), NULL);
        still("another lane", busy -> busy.item(0, 1, 0, 5), CAST);
        still("cast ahead of index", busy -> busy.item(0, 1, 3, 5), CAST);
        still("behind the last", busy -> busy.item(0, 0, 3, 5), INDEX);
        still("ahead of the first", busy -> busy.item(0, 0, -1, 5), INDEX);
        still("the least int", busy -> busy.item(0, 0, MIN, 5), INDEX);
        still("the greatest int", busy -> busy.item(0, 0, MAX, 5), INDEX);
        SoldSeat seat = busy();
        due("the first", seat.item(0, 0, 0, 5), 1);
        due("the last", seat.item(0, 0, 2, 6), 1);
        holds("the first and the last", seat, 0, 0, 5, 12, 6);
    }

    @Says(promise = 35, sentence = "Item i of a SHEET, taken as a row of a LANE, becomes v, its lowest bits: 1.")
    static void itsLowestBits() {
        int[] bits = {8, 16, 32};
        for (int lane = 0; lane < 3; lane++) {
            long over = 1L << bits[lane];
            SoldSeat seat = with("p1,p2");
            seat.sent(0);
            tell(seat, 0, lane, over + 5, over / 2 + 5, Long.MIN_VALUE + 5, -over + 5, over);
            holds("lane " + lane, seat, 0, lane, 5, NOT, 5, 5, NOT);
            // -4 by its bits alone, and a sign that must not be lost.
            tell(seat, 1, lane, over - 4, 1);
            due("nobody by the lowest bits", seat.stubs(1, 1, lane, 0, 2, 1), 32);
            tell(seat, 1, lane, -4, over + 1);
            due("buyer 1 by the lowest bits", seat.stubs(1, 1, lane, 0, 2, 1), 32);
        }
        SoldSeat seat = new SoldSeat();
        tell(seat, 0, 3, 5, (1L << 32) + 5, (1L << 62) + 5, Long.MIN_VALUE + 5, Long.MAX_VALUE);
        holds("longs are whole", seat, 0, 3, 5, NOT, NOT, NOT, NOT);
    }

    // ---- promise 36: copy

    @Says(promise = 36, sentence = "BAD;")
    static void copyRefused() {
        range("from", 0, 3, v -> new SoldSeat().copy(v, 0, 0, 0, 0));
        range("to", 0, 3, v -> new SoldSeat().copy(0, 0, v, 0, 0));
        still("from 4", busy -> busy.copy(4, 0, 0, 0, 1), BAD);
        still("to -1", busy -> busy.copy(0, 0, -1, 0, 1), BAD);
        due("bad ahead of null", new SoldSeat().copy(0, 0, 4, 0, 0), BAD);
    }

    @Says(promise = 36, sentence = "NULL (either);")
    static void copyOfNothing() {
        still("from nothing", busy -> busy.copy(3, 0, 0, 0, 1), NULL);
        still("to nothing", busy -> busy.copy(0, 0, 3, 0, 1), NULL);
        still("nothing to nothing", busy -> busy.copy(3, 0, 3, 0, 0), NULL);
        still("none of nothing", busy -> busy.copy(0, 0, 3, 0, 0), NULL);
        still("null ahead of index", busy -> busy.copy(0, -1, 3, -1, -1), NULL);
    }

    @Says(promise = 36, sentence = "CAST: of unlike LANES;")
    static void copyOfUnlikeLanes() {
        still("bytes to shorts", busy -> busy.copy(0, 0, 1, 0, 1), CAST);
        still("shorts to bytes", busy -> busy.copy(1, 0, 0, 0, 1), CAST);
        still("none of them", busy -> busy.copy(0, 0, 1, 0, 0), CAST);
        still("cast ahead of index", busy -> busy.copy(0, -1, 1, 9, -1), CAST);
        SoldSeat seat = busy();
        due("bytes to bytes", seat.copy(0, 0, 2, 0, 1), 1);
    }

    @Says(promise = 36, sentence = "INDEX.")
    static void copyBeyond() {
        // Sheet 0 has three bytes, sheet 2 four.
        still("one more than there are", busy -> busy.copy(0, 0, 2, 0, 4), INDEX);
        still("one more than there is room for", busy -> busy.copy(2, 0, 0, 0, 4), INDEX);
        still("from one too far", busy -> busy.copy(0, 1, 2, 0, 3), INDEX);
        still("to one too far", busy -> busy.copy(0, 0, 2, 2, 3), INDEX);
        still("from ahead of the first", busy -> busy.copy(0, -1, 2, 0, 1), INDEX);
        still("to ahead of the first", busy -> busy.copy(0, 0, 2, -1, 1), INDEX);
        still("fewer than none", busy -> busy.copy(0, 1, 2, 1, -1), INDEX);
        still("none from beyond the end", busy -> busy.copy(0, 4, 2, 0, 0), INDEX);
        still("none to beyond the end", busy -> busy.copy(0, 0, 2, 5, 0), INDEX);
        still("none from ahead of the first", busy -> busy.copy(0, -1, 2, 0, 0), INDEX);
        still("none to ahead of the first", busy -> busy.copy(0, 0, 2, -1, 0), INDEX);
        still("the greatest ints", busy -> busy.copy(0, MAX, 2, MAX, MAX), INDEX);
        still("the least ints", busy -> busy.copy(0, MIN, 2, MIN, MIN), INDEX);
        still("the greatest int of items", busy -> busy.copy(0, 1, 2, 1, MAX), INDEX);
        still("beyond, within one sheet", busy -> busy.copy(0, 0, 0, 1, 3), INDEX);
    }

    @Says(promise = 36, sentence = "n items of a SHEET from i on come to another one (or the same) from j on, as "
        + "if all were "
        + "taken ahead: n.")
    static void copies() {
        still("none at the ends", busy -> busy.copy(0, 3, 2, 4, 0), 0);
        SoldSeat seat = busy();
        due("all there are", seat.copy(0, 0, 2, 1, 3), 3);
        holds("to", seat, 2, 0, 31, 11, 12, 13);
        holds("from", seat, 0, 0, 11, 12, 13);
        due("upwards", seat.copy(2, 0, 2, 1, 3), 3);
        holds("upwards", seat, 2, 0, 31, 31, 11, 12);
        due("downwards", seat.copy(2, 1, 2, 0, 3), 3);
        holds("downwards", seat, 2, 0, 31, 11, 12, 12);
        due("onto itself", seat.copy(0, 0, 0, 0, 3), 3);
        holds("onto itself", seat, 0, 0, 11, 12, 13);
        SoldSeat full = new SoldSeat();
        tell(full, 0, 3, row(24, 77));
        full.sheet(1, 3, 24);
        due("all 24", full.copy(0, 0, 1, 0, 24), 24);
        due("the first", full.gaps(1, 3, 0, 1, 0, 0), 77);
        due("the last", full.gaps(1, 3, 23, 1, 0, 0), 77);
    }

    @Says(promise = 36, sentence = "(NULL, CAST, INDEX, SIZE in this order)")
    static void inThisOrder() {
        SoldSeat seat = busy();
        due("nothing, and an index that is not there", seat.copy(3, 99, 0, 99, 99), NULL);
        due("another lane, and an index that is not there", seat.copy(0, 99, 1, 99, 99), CAST);
        due("an index that is not there", seat.copy(0, 99, 2, 99, 99), INDEX);
        due("a size below 0", seat.sheet(0, 0, -99), SIZE);
    }
}
