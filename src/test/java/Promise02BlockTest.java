public final class Promise02BlockTest {
    private static final Due due = new Due();
    private static final long LAST = 19999999999L;

    public static void main(String[] args) {
        howManyThereAre();
        blockOfOneSerial();
        blockOfAllSerials();
        officeTooSmall();
        officeTooLarge();
        officesAtTheEdge();
        fromTooSmall();
        toBelowFrom();
        toTooLarge();
        serialInABlock();
        neighboursOfABlock();
        barredSerialsMayBeInABlock();
        usedBlockIsStillABlock();
        room();
        refusalsAreNoBlocks();
        due.end();
    }

    private static void block(NumberRows2 x, int office, long from, long to, int want) {
        due.is("block(" + office + ", " + from + ", " + to + ")", x.block(office, from, to), want);
    }

    private static void howManyThereAre() {
        due.says("how many blocks there are");
        NumberRows2 x = new NumberRows2();
        block(x, 3, 50, 59, 1);
        block(x, 3, 0, 9, 2);
        block(x, 4, 20, 29, 3);
    }

    private static void blockOfOneSerial() {
        due.says("0 <= from <= to: from may be to");
        NumberRows2 x = new NumberRows2();
        block(x, 0, 0, 0, 1);
        block(x, 0, 7, 7, 2);
        block(x, 0, LAST, LAST, 3);
        due.is("next(0, 0)", x.next(0, 0), Due.number(0, 0));
        due.is("next(0, 0)", x.next(0, 0), Due.number(0, 7));
        due.is("next(0, 0)", x.next(0, 0), Due.number(0, LAST));
        due.is("next(0, 0)", x.next(0, 0), 0);
    }

    private static void blockOfAllSerials() {
        due.says("0 <= from <= to < 20000000000");
        NumberRows2 x = new NumberRows2();
        block(x, 0, 0, LAST, 1);
        block(x, 0, 0, 0, Due.STATE);
        block(x, 0, LAST, LAST, Due.STATE);
    }

    private static void officeTooSmall() {
        due.says("OUTSIDE (not 0 .. 99): an office below 0");
        NumberRows2 x = new NumberRows2();
        block(x, -1, 0, 1, Due.OUTSIDE);
        block(x, Integer.MIN_VALUE, 0, 1, Due.OUTSIDE);
    }

    private static void officeTooLarge() {
        due.says("OUTSIDE (not 0 .. 99): an office above 99");
        NumberRows2 x = new NumberRows2();
        block(x, 100, 0, 1, Due.OUTSIDE);
        block(x, Integer.MAX_VALUE, 0, 1, Due.OUTSIDE);
    }

    private static void officesAtTheEdge() {
        due.says("each is an office's (0 .. 99)");
        NumberRows2 x = new NumberRows2();
        block(x, 0, 0, 1, 1);
        block(x, 99, 2, 3, 2);
        due.is("next(99, 0)", x.next(99, 0), Due.number(0, 2));
        due.is("next(0, 0)", x.next(0, 0), Due.number(0, 0));
    }

    private static void fromTooSmall() {
        due.says("OUTSIDE (not 0 <= from)");
        NumberRows2 x = new NumberRows2();
        block(x, 0, -1, 1, Due.OUTSIDE);
        block(x, 0, -1, -1, Due.OUTSIDE);
        block(x, 0, Long.MIN_VALUE, 0, Due.OUTSIDE);
    }

    private static void toBelowFrom() {
        due.says("OUTSIDE (not from <= to)");
        NumberRows2 x = new NumberRows2();
        block(x, 0, 1, 0, Due.OUTSIDE);
        block(x, 0, LAST, LAST - 1, Due.OUTSIDE);
        block(x, 0, 0, -1, Due.OUTSIDE);
        block(x, 0, 0, Long.MIN_VALUE, Due.OUTSIDE);
    }

    private static void toTooLarge() {
        due.says("OUTSIDE (not to < 20000000000)");
        NumberRows2 x = new NumberRows2();
        block(x, 0, 0, LAST + 1, Due.OUTSIDE);
        block(x, 0, LAST + 1, LAST + 1, Due.OUTSIDE);
        block(x, 0, 0, Due.M - 1, Due.OUTSIDE);
        block(x, 0, 0, Long.MAX_VALUE, Due.OUTSIDE);
        block(x, 0, Long.MAX_VALUE, Long.MAX_VALUE, Due.OUTSIDE);
    }

    private static void serialInABlock() {
        due.says("STATE (a serial of it is in a block)");
        NumberRows2 x = new NumberRows2();
        x.block(1, 10, 20);
        x.block(1, 30, 30);
        long[][] rows = {{10, 20}, {0, 10}, {20, 29}, {15, 15}, {0, 29}, {10, 10}, {20, 20}, {9, 11}, {19, 21},
            {30, 30}, {21, 30}, {30, LAST}, {0, LAST}};
        for (long[] row : rows) {
            block(x, 1, row[0], row[1], Due.STATE);
            block(x, 2, row[0], row[1], Due.STATE);
        }
    }

    private static void neighboursOfABlock() {
        due.says("STATE (a serial of it is in a block): none is");
        NumberRows2 x = new NumberRows2();
        x.block(1, 10, 20);
        block(x, 1, 0, 9, 2);
        block(x, 2, 21, 30, 3);
    }

    private static void barredSerialsMayBeInABlock() {
        due.says("STATE (a serial of it is in a block): a barred one is in none");
        NumberRows2 x = new NumberRows2();
        x.bar(40, 50);
        block(x, 2, 40, 51, 1);
        due.is("next(2, 0)", x.next(2, 0), Due.number(0, 51));
    }

    private static void usedBlockIsStillABlock() {
        due.says("STATE (a serial of it is in a block): though it was given, or barred");
        NumberRows2 x = new NumberRows2();
        x.block(2, 0, 0);
        x.block(2, 5, 5);
        x.next(2, 0);
        x.bar(5, 5);
        block(x, 2, 0, 0, Due.STATE);
        block(x, 2, 5, 5, Due.STATE);
    }

    private static void room() {
        due.says("BLOCKS (50 at most)");
        NumberRows2 x = new NumberRows2();
        for (int b = 0; b < 50; b++) {
            block(x, b, b * 10, b * 10 + 4, b + 1);
        }
        block(x, 60, 5, 5, Due.ROOM);
        block(x, 60, 504, 504, Due.ROOM);
        due.is("next of the 50th block's office", x.next(49, 0), Due.number(0, 490));
        due.is("next of the office without a block", x.next(60, 0), 0);
    }

    private static void refusalsAreNoBlocks() {
        due.says("A call that is refused changes nothing");
        NumberRows2 x = new NumberRows2();
        block(x, 0, 5, 6, 1);
        block(x, 1, 0, 5, Due.STATE);
        block(x, 100, 0, 4, Due.OUTSIDE);
        block(x, 1, 0, 4, 2);
        due.is("next(1, 0)", x.next(1, 0), Due.number(0, 0));
        due.is("next(0, 0)", x.next(0, 0), Due.number(0, 5));
    }
}
