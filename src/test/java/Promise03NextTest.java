public final class Promise03NextTest {
    private static final Due due = new Due();

    public static void main(String[] args) {
        outside();
        order();
        barredSerials();
        overlappingBars();
        barAfterUse();
        manyNumbers();
        due.end();
    }

    private static void outside() {
        NumberRows2 x = new NumberRows2();
        x.block(0, 0, 5);
        int[][] wrong = {{-1, 0}, {100, 0}, {0, -1}, {0, 10}, {100, 10}, {Integer.MIN_VALUE, 0},
            {Integer.MAX_VALUE, 0}, {0, Integer.MIN_VALUE}, {0, Integer.MAX_VALUE}};
        for (int[] w : wrong) {
            due.is("next(" + w[0] + ", " + w[1] + ")", x.next(w[0], w[1]), Due.OUTSIDE);
        }
        due.is("next(99, 9) without a block", x.next(99, 9), 0);
        due.is("refusals use nothing up", x.next(0, 9), Due.number(9, 0));
    }

    private static void order() {
        NumberRows2 x = new NumberRows2();
        x.block(4, 100, 101);
        x.block(5, 0, 0);
        x.block(4, 10, 11);
        x.block(4, 19999999999L, 19999999999L);
        due.is("the first block, not the least", x.next(4, 2), Due.number(2, 100));
        due.is("a serial once, whatever the service", x.next(4, 3), Due.number(3, 101));
        due.is("the second block", x.next(4, 2), Due.number(2, 10));
        due.is("another office", x.next(5, 0), Due.number(0, 0));
        due.is("another office, used up", x.next(5, 1), 0);
        due.is("the second block's end", x.next(4, 2), Due.number(2, 11));
        due.is("the last serial", x.next(4, 0), Due.number(0, 19999999999L));
        due.is("used up", x.next(4, 0), 0);
        x.block(4, 1, 1);
        due.is("a new block", x.next(4, 0), Due.number(0, 1));
    }

    private static void barredSerials() {
        NumberRows2 x = new NumberRows2();
        x.block(0, 0, 9);
        x.block(0, 20, 22);
        x.bar(0, 2);
        due.is("behind a barred row", x.next(0, 0), Due.number(0, 3));
        x.bar(5, 5);
        due.is("before a barred row", x.next(0, 0), Due.number(0, 4));
        due.is("over a barred serial", x.next(0, 0), Due.number(0, 6));
        x.bar(7, 20);
        due.is("the next block, its first serial barred", x.next(0, 0), Due.number(0, 21));
        x.bar(22, 22);
        due.is("the rest is barred", x.next(0, 0), 0);
    }

    private static void overlappingBars() {
        NumberRows2 x = new NumberRows2();
        x.block(7, 0, 1000);
        // The rows follow one another from the last made to the first.
        for (int r = 49; r >= 0; r--) {
            x.bar(r * 10, r * 10 + 10);
        }
        due.is("behind fifty rows", x.next(7, 0), Due.number(0, 501));

        NumberRows2 y = new NumberRows2();
        y.block(7, 0, 1000);
        y.bar(0, 100);
        y.bar(50, 60);
        y.bar(100, 150);
        y.bar(152, 160);
        due.is("between overlapping rows", y.next(7, 0), Due.number(0, 151));
        due.is("behind them", y.next(7, 0), Due.number(0, 161));
    }

    private static void barAfterUse() {
        NumberRows2 x = new NumberRows2();
        x.block(0, 0, 3);
        x.next(0, 0);
        x.next(0, 0);
        x.bar(0, 0);
        due.is("a barred number is not given again", x.next(0, 5), Due.number(5, 2));
        x.bar(0, 27512614110L);
        due.is("everything is barred", x.next(0, 5), 0);
    }

    private static void manyNumbers() {
        NumberRows2 x = new NumberRows2();
        x.block(0, 1000, 1999);
        for (int k = 0; k < 511; k++) {
            due.is("next " + k, x.next(0, k % 10), Due.number(k % 10, 1000 + k));
        }
    }
}
