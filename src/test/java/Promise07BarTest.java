public final class Promise07BarTest {
    private static final Due due = new Due();

    public static void main(String[] args) {
        howManyAreNotGivenAnyMore();
        noneWasGiven();
        edgesOfARow();
        rowOfOneSerial();
        rowOfAllSerials();
        numbersOfEveryService();
        barredBefore();
        fromTooSmall();
        toBelowFrom();
        toTooLarge();
        serialsOutsideAllBlocks();
        room();
        rowsBarredBeforeTakeRoomToo();
        due.end();
    }

    private static void bar(NumberRows2 x, long from, long to, int want) {
        due.is("bar(" + from + ", " + to + ")", x.bar(from, to), want);
    }

    /** An object of which the numbers with the services and serials 0 to 9 are given. */
    private static NumberRows2 withTenGiven() {
        NumberRows2 x = new NumberRows2();
        x.block(0, 0, 99);
        for (int k = 0; k < 10; k++) {
            x.next(0, k);
        }
        return x;
    }

    private static void howManyAreNotGivenAnyMore() {
        due.says("how many numbers that were given are not any more by that");
        NumberRows2 x = withTenGiven();
        bar(x, 3, 5, 3);
        for (int k = 0; k < 10; k++) {
            due.is("given, serial " + k, x.given(Due.number(k, k)), k < 3 || k > 5);
        }
    }

    private static void noneWasGiven() {
        due.says("how many numbers that were given: none was");
        NumberRows2 x = withTenGiven();
        bar(x, 10, 20, 0);
        bar(x, 100, 200, 0);
        for (int k = 0; k < 10; k++) {
            due.is("given, serial " + k, x.given(Due.number(k, k)), true);
        }
        due.is("next(0, 0)", x.next(0, 0), Due.number(0, 21));
    }

    private static void edgesOfARow() {
        due.says("A row of serials is barred: from one to another one");
        NumberRows2 x = withTenGiven();
        bar(x, 9, 30, 1);
        bar(x, 0, 0, 1);
        bar(x, 4, 6, 3);
        int[] left = {1, 2, 3, 7, 8};
        for (int k : left) {
            due.is("given, serial " + k, x.given(Due.number(k, k)), true);
        }
        bar(x, 0, 99, 5);
    }

    private static void rowOfOneSerial() {
        due.says("0 <= from <= to < M: from may be to");
        NumberRows2 x = withTenGiven();
        bar(x, 0, 0, 1);
        bar(x, Due.M - 1, Due.M - 1, 0);
        bar(x, 10, 10, 0);
        due.is("next(0, 0)", x.next(0, 0), Due.number(0, 11));
    }

    private static void rowOfAllSerials() {
        due.says("0 <= from <= to < M: all serials");
        NumberRows2 x = withTenGiven();
        bar(x, 0, Due.M - 1, 10);
        due.is("next(0, 0)", x.next(0, 0), 0);
        bar(x, 0, Due.M - 1, 0);
    }

    private static void numbersOfEveryService() {
        due.says("A row of serials is barred: whatever the service");
        NumberRows2 x = new NumberRows2();
        x.block(0, 19999999990L, 19999999999L);
        for (int service = 0; service < 10; service++) {
            x.next(0, service);
        }
        bar(x, 19999999999L, Due.M - 1, 1);
        bar(x, 0, 19999999990L, 1);
        bar(x, 0, Due.M - 1, 8);
    }

    private static void barredBefore() {
        due.says("are not any more by that: not by an earlier one");
        NumberRows2 x = withTenGiven();
        bar(x, 3, 5, 3);
        bar(x, 3, 5, 0);
        bar(x, 2, 6, 2);
        bar(x, 0, 9, 5);
        bar(x, 0, 9, 0);
    }

    private static void fromTooSmall() {
        due.says("OUTSIDE (not 0 <= from)");
        NumberRows2 x = withTenGiven();
        bar(x, -1, 0, Due.OUTSIDE);
        bar(x, -1, -1, Due.OUTSIDE);
        bar(x, Long.MIN_VALUE, 5, Due.OUTSIDE);
        bar(x, Long.MIN_VALUE, Long.MAX_VALUE, Due.OUTSIDE);
        due.is("given, serial 0", x.given(Due.number(0, 0)), true);
    }

    private static void toBelowFrom() {
        due.says("OUTSIDE (not from <= to)");
        NumberRows2 x = withTenGiven();
        bar(x, 1, 0, Due.OUTSIDE);
        bar(x, 0, -1, Due.OUTSIDE);
        bar(x, Due.M - 1, Due.M - 2, Due.OUTSIDE);
        bar(x, 5, Long.MIN_VALUE, Due.OUTSIDE);
    }

    private static void toTooLarge() {
        due.says("OUTSIDE (not to < M)");
        NumberRows2 x = withTenGiven();
        bar(x, 0, Due.M, Due.OUTSIDE);
        bar(x, Due.M, Due.M, Due.OUTSIDE);
        bar(x, 0, Long.MAX_VALUE, Due.OUTSIDE);
        due.is("given, serial 0", x.given(Due.number(0, 0)), true);
        due.is("next(0, 0)", x.next(0, 0), Due.number(0, 10));
    }

    private static void serialsOutsideAllBlocks() {
        due.says("to < M: serials from 20000000000 on may be barred");
        NumberRows2 x = withTenGiven();
        bar(x, 20000000000L, 20999999999L, 0);
        bar(x, 21000000000L, Due.M - 1, 0);
        due.is("given, serial 9", x.given(Due.number(9, 9)), true);
    }

    private static void room() {
        due.says("BARRED ROWS (50 at most)");
        NumberRows2 x = new NumberRows2();
        x.block(0, 490, 1009);
        for (int r = 0; r < 50; r++) {
            bar(x, r * 10, r * 10, 0);
        }
        due.is("next(0, 0) behind the 50th row", x.next(0, 0), Due.number(0, 491));
        bar(x, 491, 492, Due.ROOM);
        due.is("given, serial 491", x.given(Due.number(0, 491)), true);
        due.is("next(0, 0)", x.next(0, 0), Due.number(0, 492));
    }

    private static void rowsBarredBeforeTakeRoomToo() {
        due.says("BARRED ROWS (50 at most): a row is one though its serials were barred before");
        NumberRows2 x = new NumberRows2();
        for (int r = 0; r < 50; r++) {
            bar(x, 3, 5, 0);
        }
        bar(x, 3, 5, Due.ROOM);
    }
}
