public final class Promise03NextTest {
    private static final Due due = new Due();
    private static final long LAST = 19999999999L;

    public static void main(String[] args) {
        officeTooSmall();
        officeTooLarge();
        serviceTooSmall();
        serviceTooLarge();
        edgesOfOfficesAndServices();
        leastSerialOfABlock();
        firstBlockInTheOrderInWhichTheyCame();
        firstBlockThatHasOne();
        ownBlocksAlone();
        everySerialOnce();
        neverGivenThoughBarredSince();
        barredAtTheBlocksStart();
        barredInTheMiddle();
        barredAtTheBlocksEnd();
        barredRowsThatOverlap();
        fiftyBarredRowsInARow();
        barredRowsOfAnotherBlock();
        usedUpWithoutABlock();
        usedUpByGiving();
        usedUpByBarring();
        notUsedUpWithANewBlock();
        lastSerialOfAll();
        due.end();
    }

    private static void next(NumberRows2 x, int office, int service, long want) {
        due.is("next(" + office + ", " + service + ")", x.next(office, service), want);
    }

    /** An object whose office 0 has a block. */
    private static NumberRows2 withBlock(long from, long to) {
        NumberRows2 x = new NumberRows2();
        x.block(0, from, to);
        return x;
    }

    private static void officeTooSmall() {
        due.says("OUTSIDE (an office is not 0 .. 99): below 0");
        NumberRows2 x = withBlock(0, 5);
        next(x, -1, 0, Due.OUTSIDE);
        next(x, Integer.MIN_VALUE, 0, Due.OUTSIDE);
        next(x, -1, 10, Due.OUTSIDE);
    }

    private static void officeTooLarge() {
        due.says("OUTSIDE (an office is not 0 .. 99): above 99");
        NumberRows2 x = withBlock(0, 5);
        next(x, 100, 0, Due.OUTSIDE);
        next(x, Integer.MAX_VALUE, 0, Due.OUTSIDE);
    }

    private static void serviceTooSmall() {
        due.says("OUTSIDE (a service not 0 .. 9): below 0");
        NumberRows2 x = withBlock(0, 5);
        next(x, 0, -1, Due.OUTSIDE);
        next(x, 0, Integer.MIN_VALUE, Due.OUTSIDE);
        next(x, 1, -1, Due.OUTSIDE);
        next(x, 0, 0, Due.number(0, 0));
    }

    private static void serviceTooLarge() {
        due.says("OUTSIDE (a service not 0 .. 9): above 9");
        NumberRows2 x = withBlock(0, 5);
        next(x, 0, 10, Due.OUTSIDE);
        next(x, 0, Integer.MAX_VALUE, Due.OUTSIDE);
        next(x, 1, 10, Due.OUTSIDE);
        next(x, 0, 9, Due.number(9, 0));
    }

    private static void edgesOfOfficesAndServices() {
        due.says("an office 0 .. 99, a service 0 .. 9");
        NumberRows2 x = withBlock(0, 5);
        x.block(99, 6, 9);
        next(x, 0, 0, Due.number(0, 0));
        next(x, 0, 9, Due.number(9, 1));
        next(x, 99, 0, Due.number(0, 6));
        next(x, 99, 9, Due.number(9, 7));
    }

    private static void leastSerialOfABlock() {
        due.says("the least serial");
        NumberRows2 x = withBlock(0, 2);
        next(x, 0, 4, Due.number(4, 0));
        next(x, 0, 4, Due.number(4, 1));
        next(x, 0, 4, Due.number(4, 2));
    }

    private static void firstBlockInTheOrderInWhichTheyCame() {
        due.says("the first of its blocks (in the order in which they came)");
        NumberRows2 x = withBlock(100, 101);
        x.block(0, 10, 11);
        x.block(0, 500, 500);
        long[] serials = {100, 101, 10, 11, 500};
        for (long serial : serials) {
            next(x, 0, 2, Due.number(2, serial));
        }
    }

    private static void firstBlockThatHasOne() {
        due.says("the first of its blocks that has one");
        NumberRows2 x = withBlock(100, 101);
        x.block(0, 10, 11);
        x.block(0, 50, 51);
        x.bar(100, 101);
        next(x, 0, 0, Due.number(0, 10));
        x.bar(11, 50);
        next(x, 0, 0, Due.number(0, 51));
    }

    private static void ownBlocksAlone() {
        due.says("its blocks");
        NumberRows2 x = withBlock(10, 10);
        x.block(1, 0, 0);
        next(x, 0, 0, Due.number(0, 10));
        next(x, 0, 0, 0);
        next(x, 1, 0, Due.number(0, 0));
        next(x, 1, 0, 0);
    }

    private static void everySerialOnce() {
        due.says("which was never given: by no service");
        NumberRows2 x = withBlock(0, 9);
        for (int service = 0; service < 10; service++) {
            next(x, 0, service, Due.number(service, service));
        }
        next(x, 0, 0, 0);
    }

    private static void neverGivenThoughBarredSince() {
        due.says("which was never given: not before it was barred either");
        NumberRows2 x = withBlock(0, 3);
        next(x, 0, 0, Due.number(0, 0));
        next(x, 0, 0, Due.number(0, 1));
        x.bar(0, 0);
        next(x, 0, 5, Due.number(5, 2));
        x.bar(2, 2);
        next(x, 0, 5, Due.number(5, 3));
        next(x, 0, 5, 0);
    }

    private static void barredAtTheBlocksStart() {
        due.says("and is not barred: the first serial is");
        NumberRows2 x = withBlock(5, 9);
        x.bar(5, 5);
        next(x, 0, 0, Due.number(0, 6));
        NumberRows2 y = withBlock(5, 9);
        y.bar(0, 7);
        next(y, 0, 0, Due.number(0, 8));
        NumberRows2 z = withBlock(5, 9);
        z.bar(0, 4);
        next(z, 0, 0, Due.number(0, 5));
    }

    private static void barredInTheMiddle() {
        due.says("and is not barred: one in the middle is");
        NumberRows2 x = withBlock(0, 9);
        x.bar(1, 1);
        x.bar(3, 5);
        next(x, 0, 0, Due.number(0, 0));
        next(x, 0, 0, Due.number(0, 2));
        next(x, 0, 0, Due.number(0, 6));
    }

    private static void barredAtTheBlocksEnd() {
        due.says("and is not barred: the last serial is");
        NumberRows2 x = withBlock(0, 1);
        x.bar(1, 1);
        next(x, 0, 0, Due.number(0, 0));
        next(x, 0, 0, 0);
        NumberRows2 y = withBlock(0, 1);
        y.bar(2, 2);
        next(y, 0, 0, Due.number(0, 0));
        next(y, 0, 0, Due.number(0, 1));
        next(y, 0, 0, 0);
    }

    private static void barredRowsThatOverlap() {
        due.says("and is not barred: rows overlap");
        NumberRows2 x = withBlock(0, 1000);
        x.bar(0, 100);
        x.bar(50, 60);
        x.bar(100, 150);
        x.bar(152, 160);
        next(x, 0, 0, Due.number(0, 151));
        next(x, 0, 0, Due.number(0, 161));
    }

    private static void fiftyBarredRowsInARow() {
        due.says("and is not barred: fifty rows follow one another");
        NumberRows2 up = withBlock(0, 1000);
        NumberRows2 down = withBlock(0, 1000);
        for (int r = 0; r < 50; r++) {
            up.bar(r * 10, r * 10 + 9);
            down.bar((49 - r) * 10, (49 - r) * 10 + 9);
        }
        next(up, 0, 0, Due.number(0, 500));
        next(down, 0, 0, Due.number(0, 500));
    }

    private static void barredRowsOfAnotherBlock() {
        due.says("and is not barred: a row goes over the end of a block into another");
        NumberRows2 x = withBlock(0, 4);
        x.block(1, 5, 9);
        x.block(0, 10, 14);
        x.bar(3, 11);
        next(x, 1, 0, 0);
        long[] serials = {0, 1, 2, 12, 13, 14};
        for (long serial : serials) {
            next(x, 0, 0, Due.number(0, serial));
        }
        next(x, 0, 0, 0);
    }

    private static void usedUpWithoutABlock() {
        due.says("0 when all are used up: there is no block");
        NumberRows2 x = withBlock(0, 4);
        next(x, 1, 0, 0);
        next(x, 99, 9, 0);
    }

    private static void usedUpByGiving() {
        due.says("0 when all are used up: all were given");
        NumberRows2 x = withBlock(7, 7);
        next(x, 0, 0, Due.number(0, 7));
        next(x, 0, 0, 0);
        next(x, 0, 1, 0);
    }

    private static void usedUpByBarring() {
        due.says("0 when all are used up: all are barred");
        NumberRows2 x = withBlock(0, LAST);
        x.bar(0, Due.M - 1);
        next(x, 0, 0, 0);
        NumberRows2 y = withBlock(3, 5);
        y.bar(4, 5);
        y.bar(3, 3);
        next(y, 0, 0, 0);
    }

    private static void notUsedUpWithANewBlock() {
        due.says("0 when all are used up: not with another block");
        NumberRows2 x = withBlock(7, 7);
        next(x, 0, 0, Due.number(0, 7));
        next(x, 0, 0, 0);
        x.block(0, 6, 6);
        next(x, 0, 0, Due.number(0, 6));
        next(x, 0, 0, 0);
    }

    private static void lastSerialOfAll() {
        due.says("all below 20000000000: the last one is given");
        NumberRows2 x = withBlock(LAST - 1, LAST);
        next(x, 0, 9, Due.number(9, LAST - 1));
        next(x, 0, 9, Due.number(9, LAST));
        next(x, 0, 9, 0);
    }
}
