public final class Promise01NewObjectTest {
    public static void main(String[] args) {
        Due due = new Due();
        NumberRows2 x = new NumberRows2();
        due.is("nothing typed: read()", x.read(), -1);
        for (int office = 0; office < 100; office++) {
            due.is("no blocks: next(" + office + ", 0)", x.next(office, 0), 0);
        }
        due.is("nothing given", x.given(Due.number(0, 0)), false);
        due.is("nothing named", x.named(0, 0), Due.UNKNOWN);
        due.is("the first block", x.block(0, 0, 19999999999L), 1);
        due.is("nothing barred: next(0, 0)", x.next(0, 0), Due.number(0, 0));

        NumberRows2 other = new NumberRows2();
        Due.type(x, "0");
        x.bar(0, 5);
        due.is("objects share nothing typed", other.read(), -1);
        due.is("objects share no blocks", other.block(1, 0, 10), 1);
        due.is("objects share nothing barred", other.next(1, 0), Due.number(0, 0));
        due.end();
    }
}
