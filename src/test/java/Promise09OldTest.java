public final class Promise09OldTest {
    public static void main(String[] args) {
        Due due = new Due();
        NumberRows2 x = new NumberRows2();
        long start = 20000000000L;
        long billion = 1000000000L;
        for (int service = 0; service < 10; service++) {
            long[] rests = {0, 1, 123456789, billion - 1};
            for (long rest : rests) {
                long o = service * billion + rest;
                long number = Due.number(service, start + rest);
                due.is("old(" + o + ")", x.old(o), number);
                due.is("old(" + number + ")", x.old(number), o);
            }
            long before = Due.number(service, start - 1);
            long behind = Due.number(service, start + billion);
            due.is("old(" + before + ")", x.old(before), Due.OUTSIDE);
            due.is("old(" + behind + ")", x.old(behind), Due.OUTSIDE);
            due.is("serial 0", x.old(Due.number(service, 0)), Due.OUTSIDE);
            due.is("serial M - 1", x.old(Due.number(service, Due.M - 1)), Due.OUTSIDE);
        }
        // start + rest without a service before it, and with the service that would be 10.
        long[] wrong = {-1, 10 * billion, start, start + 5, Due.M - 1, Due.number(10, start), Due.number(-2, start),
            Long.MIN_VALUE, Long.MAX_VALUE};
        for (long number : wrong) {
            due.is("old(" + number + ")", x.old(number), Due.OUTSIDE);
        }
        x.bar(0, Due.M - 1);
        due.is("bars do not matter", x.old(7), Due.number(0, start + 7));
        due.end();
    }
}
