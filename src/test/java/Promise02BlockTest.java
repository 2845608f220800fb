public final class Promise02BlockTest {
    private static final Due due = new Due();
    private static final long LAST = 19999999999L;

    public static void main(String[] args) {
        outside();
        touching();
        room();
        refusalsChangeNothing();
        due.end();
    }

    private static void outside() {
        NumberRows2 x = new NumberRows2();
        int[] offices = {-1, 100, Integer.MIN_VALUE, Integer.MAX_VALUE};
        for (int office : offices) {
            due.is("block(" + office + ", 0, 1)", x.block(office, 0, 1), Due.OUTSIDE);
        }
        long[][] rows = {{-1, 1}, {1, 0}, {0, LAST + 1}, {LAST + 1, LAST + 1}, {LAST, LAST - 1},
            {Long.MIN_VALUE, 0}, {0, Long.MAX_VALUE}, {0, Long.MIN_VALUE}, {Long.MAX_VALUE, Long.MAX_VALUE}};
        for (long[] row : rows) {
            due.is("block(0, " + row[0] + ", " + row[1] + ")", x.block(0, row[0], row[1]), Due.OUTSIDE);
        }
        due.is("block(99, 0, 0)", x.block(99, 0, 0), 1);
        due.is("block(0, LAST, LAST)", x.block(0, LAST, LAST), 2);
        due.is("block(50, 1, LAST - 1)", x.block(50, 1, LAST - 1), 3);
        due.is("OUTSIDE goes before STATE", x.block(100, 0, 0), Due.OUTSIDE);
        due.is("STATE for an office's own block", x.block(99, 0, 0), Due.STATE);
    }

    private static void touching() {
        NumberRows2 x = new NumberRows2();
        due.is("block(1, 10, 20)", x.block(1, 10, 20), 1);
        long[][] rows = {{10, 20}, {0, 10}, {20, 30}, {15, 15}, {0, 100}, {10, 10}, {20, 20}, {9, 11}, {19, 21}};
        for (long[] row : rows) {
            due.is("block(2, " + row[0] + ", " + row[1] + ")", x.block(2, row[0], row[1]), Due.STATE);
        }
        due.is("block(2, 0, 9)", x.block(2, 0, 9), 2);
        due.is("block(2, 21, 30)", x.block(2, 21, 30), 3);
        due.is("a row over two later blocks", x.block(3, 5, 25), Due.STATE);
        x.bar(40, 50);
        due.is("barred serials may be in a block", x.block(2, 40, 50), 4);
    }

    private static void room() {
        NumberRows2 x = new NumberRows2();
        for (int b = 0; b < 50; b++) {
            due.is("block " + (b + 1), x.block(b % 3, b * 10, b * 10 + 4), b + 1);
        }
        due.is("block 51", x.block(0, 5, 5), Due.ROOM);
        due.is("STATE goes before ROOM", x.block(0, 490, 490), Due.STATE);
        due.is("OUTSIDE goes before ROOM", x.block(0, 6, 5), Due.OUTSIDE);
        due.is("the 50th block is used", x.bar(0, 489), 0);
        due.is("next(1, 0)", x.next(1, 0), Due.number(0, 490));
    }

    private static void refusalsChangeNothing() {
        NumberRows2 x = new NumberRows2();
        x.block(0, 5, 6);
        x.block(1, 0, 5);
        x.block(100, 0, 4);
        due.is("block(1, 0, 4) after refusals", x.block(1, 0, 4), 2);
        due.is("next(1, 0)", x.next(1, 0), Due.number(0, 0));
        due.is("next(0, 0)", x.next(0, 0), Due.number(0, 5));
    }
}
