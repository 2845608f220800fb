public final class Promise08GivenTest {
    public static void main(String[] args) {
        Due due = new Due();
        NumberRows2 x = new NumberRows2();
        x.block(0, 0, 5);
        x.block(0, 19999999999L, 19999999999L);
        due.is("in a block alone", x.given(Due.number(0, 0)), false);
        x.next(0, 0);
        x.next(0, 9);
        due.is("given", x.given(Due.number(0, 0)), true);
        due.is("given, service 9", x.given(Due.number(9, 1)), true);
        due.is("the serial of another service", x.given(Due.number(1, 0)), false);
        due.is("the serial of another service", x.given(Due.number(0, 1)), false);
        due.is("not given yet", x.given(Due.number(0, 2)), false);
        x.bar(0, 0);
        due.is("barred", x.given(Due.number(0, 0)), false);
        due.is("not barred", x.given(Due.number(9, 1)), true);
        x.bar(2, 5);
        due.is("the last serial of all", x.next(0, 9), Due.number(9, 19999999999L));
        due.is("given, the last", x.given(Due.number(9, 19999999999L)), true);

        due.is("an old number's is not given", x.given(x.old(5)), false);
        long[] none = {0, 1, -1, 5, Due.M - 1, 11 * Due.M, Long.MIN_VALUE, Long.MAX_VALUE, Due.OUTSIDE};
        for (long number : none) {
            due.is("given(" + number + ")", x.given(number), false);
        }
        due.end();
    }
}
