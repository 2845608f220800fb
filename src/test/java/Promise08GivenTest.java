public final class Promise08GivenTest {
    private static final Due due = new Due();

    public static void main(String[] args) {
        numbersThatCameByNext();
        notBeforeTheyCame();
        firstAndLastSerial();
        serialOfAnotherService();
        untilTheyAreBarred();
        barredThatNeverCame();
        oldNumbers();
        noNumbers();
        due.end();
    }

    private static void given(NumberRows2 x, long number, boolean want) {
        due.is("given(" + number + ")", x.given(number), want);
    }

    private static NumberRows2 withBlock() {
        NumberRows2 x = new NumberRows2();
        x.block(0, 0, 5);
        return x;
    }

    private static void numbersThatCameByNext() {
        due.says("GIVEN are numbers that came by next");
        NumberRows2 x = withBlock();
        for (int k = 0; k <= 5; k++) {
            given(x, x.next(0, k), true);
        }
        for (int k = 0; k <= 5; k++) {
            given(x, Due.number(k, k), true);
        }
    }

    private static void notBeforeTheyCame() {
        due.says("GIVEN are numbers that came by next: not those that may come");
        NumberRows2 x = withBlock();
        given(x, Due.number(0, 0), false);
        x.next(0, 0);
        given(x, Due.number(0, 1), false);
    }

    private static void firstAndLastSerial() {
        due.says("GIVEN are numbers that came by next: the least and the greatest");
        NumberRows2 x = new NumberRows2();
        x.block(0, 0, 0);
        x.block(0, 19999999999L, 19999999999L);
        x.next(0, 0);
        x.next(0, 9);
        given(x, Due.M, true);
        given(x, Due.number(9, 19999999999L), true);
    }

    private static void serialOfAnotherService() {
        due.says("Whether a number was GIVEN: not another one with its serial");
        NumberRows2 x = withBlock();
        x.next(0, 4);
        for (int service = 0; service < 10; service++) {
            given(x, Due.number(service, 0), service == 4);
        }
    }

    private static void untilTheyAreBarred() {
        due.says("until they are barred");
        NumberRows2 x = withBlock();
        x.next(0, 0);
        x.next(0, 9);
        x.next(0, 0);
        x.bar(1, 1);
        given(x, Due.number(0, 0), true);
        given(x, Due.number(9, 1), false);
        given(x, Due.number(0, 2), true);
    }

    private static void barredThatNeverCame() {
        due.says("until they are barred: one that never came");
        NumberRows2 x = withBlock();
        x.bar(0, 1);
        given(x, Due.number(0, 0), false);
        x.next(0, 0);
        given(x, Due.number(0, 1), false);
        given(x, Due.number(0, 2), true);
    }

    private static void oldNumbers() {
        due.says("GIVEN are numbers that came by next: not old ones, nor what they become");
        NumberRows2 x = withBlock();
        given(x, 0, false);
        given(x, x.old(0), false);
        given(x, 9999999999L, false);
        given(x, x.old(9999999999L), false);
    }

    private static void noNumbers() {
        due.says("Whether a number was GIVEN: what is none was not");
        NumberRows2 x = withBlock();
        x.next(0, 0);
        long[] none = {0, 1, -1, Due.M - 1, 11 * Due.M, Due.number(10, 0), Due.number(-1, 0), Due.OUTSIDE,
            Long.MIN_VALUE, Long.MAX_VALUE};
        for (long number : none) {
            given(x, number, false);
        }
    }
}
