public final class Promise07BarTest {
    private static final Due due = new Due();

    public static void main(String[] args) {
        outside();
        counts();
        room();
        due.end();
    }

    private static void outside() {
        NumberRows2 x = new NumberRows2();
        x.block(0, 0, 9);
        x.next(0, 0);
        long[][] rows = {{-1, 0}, {1, 0}, {0, Due.M}, {Due.M, Due.M}, {Long.MIN_VALUE, Long.MAX_VALUE},
            {0, Long.MAX_VALUE}, {Long.MIN_VALUE, 0}, {5, Long.MIN_VALUE}};
        for (long[] row : rows) {
            due.is("bar(" + row[0] + ", " + row[1] + ")", x.bar(row[0], row[1]), Due.OUTSIDE);
        }
        due.is("a refusal bars nothing that was given", x.given(Due.number(0, 0)), true);
        due.is("a refusal bars nothing that comes", x.next(0, 0), Due.number(0, 1));
        due.is("bar(M - 1, M - 1)", x.bar(Due.M - 1, Due.M - 1), 0);
        due.is("bar(0, M - 1)", x.bar(0, Due.M - 1), 2);
    }

    private static void counts() {
        NumberRows2 x = new NumberRows2();
        x.block(0, 0, 99);
        for (int k = 0; k < 10; k++) {
            x.next(0, k);
        }
        due.is("not given yet", x.bar(10, 20), 0);
        due.is("the last one and others", x.bar(9, 30), 1);
        due.is("the first one", x.bar(0, 0), 1);
        due.is("three in the middle", x.bar(3, 5), 3);
        due.is("the same row again", x.bar(3, 5), 0);
        due.is("overlapping", x.bar(2, 6), 2);
        for (int k = 0; k < 10; k++) {
            due.is("given, serial " + k, x.given(Due.number(k, k)), k == 1 || k == 7 || k == 8);
        }
        due.is("all that are left", x.bar(0, 1000), 3);
    }

    private static void room() {
        NumberRows2 x = new NumberRows2();
        x.block(0, 1000, 1009);
        for (int r = 0; r < 50; r++) {
            due.is("row " + r, x.bar(r, r), 0);
        }
        x.next(0, 0);
        due.is("row 51", x.bar(1000, 1001), Due.ROOM);
        due.is("row 51, barred already", x.bar(3, 3), Due.ROOM);
        due.is("OUTSIDE goes before ROOM", x.bar(1, 0), Due.OUTSIDE);
        due.is("a refusal bars nothing that was given", x.given(Due.number(0, 1000)), true);
        due.is("a refusal bars nothing that comes", x.next(0, 0), Due.number(0, 1001));
    }
}
