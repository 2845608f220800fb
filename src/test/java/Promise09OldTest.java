public final class Promise09OldTest {
    private static final Due due = new Due();
    private static final long START = 20000000000L;
    private static final long BILLION = 1000000000L;

    public static void main(String[] args) {
        firstAndLastOldNumber();
        lastOfAServiceAndFirstOfTheNext();
        thereAndBack();
        belowTheOldNumbers();
        aboveTheOldNumbers();
        serialBeforeTheFirst();
        serialBehindTheLast();
        otherSerials();
        belowTheNumbers();
        aboveTheNumbers();
        barsAndBlocksDoNotMatter();
        due.end();
    }

    private static void old(long number, long want) {
        due.is("old(" + number + ")", new NumberRows2().old(number), want);
    }

    private static void both(long o, long number) {
        old(o, number);
        old(number, o);
    }

    private static void firstAndLastOldNumber() {
        due.says("OLD numbers are 0 .. 9999999999");
        both(0, Due.number(0, START));
        both(9999999999L, Due.number(9, START + 999999999));
    }

    private static void lastOfAServiceAndFirstOfTheNext() {
        due.says("the service o / 10^9 (cut) and the serial 20000000000 and o modulo 10^9");
        for (int service = 1; service < 10; service++) {
            both(service * BILLION - 1, Due.number(service - 1, START + BILLION - 1));
            both(service * BILLION, Due.number(service, START));
            both(service * BILLION + 1, Due.number(service, START + 1));
        }
    }

    private static void thereAndBack() {
        due.says("The number that an OLD one becomes; the old one that a number comes from");
        NumberRows2 x = new NumberRows2();
        for (int k = 0; k < 150; k++) {
            long o = k * 66666671L;
            due.is("old(" + o + ")", x.old(o), Due.number((int) (o / BILLION), START + o % BILLION));
            due.is("old(old(" + o + "))", x.old(x.old(o)), o);
        }
    }

    private static void belowTheOldNumbers() {
        due.says("OUTSIDE for all others: below 0");
        old(-1, Due.OUTSIDE);
        old(-BILLION, Due.OUTSIDE);
        old(Due.number(-2, START), Due.OUTSIDE);
        old(Long.MIN_VALUE, Due.OUTSIDE);
    }

    private static void aboveTheOldNumbers() {
        due.says("OUTSIDE for all others: above 9999999999");
        old(10 * BILLION, Due.OUTSIDE);
        old(10 * BILLION + 1, Due.OUTSIDE);
    }

    private static void serialBeforeTheFirst() {
        due.says("OUTSIDE for all others: a serial below 20000000000");
        for (int service = 0; service < 10; service++) {
            old(Due.number(service, START - 1), Due.OUTSIDE);
            old(Due.number(service, START), service * BILLION);
        }
    }

    private static void serialBehindTheLast() {
        due.says("OUTSIDE for all others: a serial above 20999999999");
        for (int service = 0; service < 10; service++) {
            old(Due.number(service, START + BILLION), Due.OUTSIDE);
            old(Due.number(service, START + BILLION - 1), service * BILLION + BILLION - 1);
        }
    }

    private static void otherSerials() {
        due.says("OUTSIDE for all others: the first and the last serial");
        for (int service = 0; service < 10; service++) {
            old(Due.number(service, 0), Due.OUTSIDE);
            old(Due.number(service, Due.M - 1), Due.OUTSIDE);
        }
    }

    private static void belowTheNumbers() {
        due.says("OUTSIDE for all others: serials alone, without a service");
        old(START, Due.OUTSIDE);
        old(START + 5, Due.OUTSIDE);
        old(Due.M - 1, Due.OUTSIDE);
    }

    private static void aboveTheNumbers() {
        due.says("OUTSIDE for all others: the service that would be 10");
        old(11 * Due.M, Due.OUTSIDE);
        old(Due.number(10, START), Due.OUTSIDE);
        old(Long.MAX_VALUE, Due.OUTSIDE);
    }

    private static void barsAndBlocksDoNotMatter() {
        due.says("The number that an OLD one becomes: though its serial is barred");
        NumberRows2 x = new NumberRows2();
        x.block(0, 0, START - 1);
        x.bar(0, Due.M - 1);
        due.is("old(7)", x.old(7), Due.number(0, START + 7));
        due.is("old(old(7))", x.old(Due.number(0, START + 7)), 7);
    }
}
