public final class Promise10MapTest {
    private static final Due due = new Due();

    public static void main(String[] args) {
        names();
        refusals();
        barredNumbers();
        room();
        due.end();
    }

    /** An object with a block of office 0 from serial 0 on, of which some numbers of service 0 are given. */
    private static NumberRows2 withGiven(int numbers) {
        NumberRows2 x = new NumberRows2();
        x.block(0, 0, 999);
        for (int k = 0; k < numbers; k++) {
            x.next(0, 0);
        }
        return x;
    }

    private static long number(int serial) {
        return Due.number(0, serial);
    }

    private static void names() {
        NumberRows2 x = withGiven(3);
        due.is("a name", x.map(0, 0, number(0)), 1);
        due.is("it was that already", x.map(0, 0, number(0)), 0);
        due.is("of another number", x.map(0, 0, number(1)), Due.STATE);
        due.is("the same reference of another sender", x.map(99, 0, number(1)), 1);
        due.is("one number, two senders", x.map(99, Long.MAX_VALUE, number(0)), 1);
        due.is("another reference", x.map(0, 5, number(0)), 2);
        due.is("the reference before is none", x.named(0, 0), Due.UNKNOWN);
        due.is("the other sender's stays", x.named(99, Long.MAX_VALUE), number(0));
        due.is("the reference before is free", x.map(0, 0, number(1)), 1);
        due.is("and taken then", x.map(0, 0, number(0)), Due.STATE);
        due.is("STATE changes nothing", x.named(0, 5), number(0));
        due.is("STATE changes nothing", x.named(0, 0), number(1));
        due.is("to a third one", x.map(0, 6, number(0)), 2);
        due.is("and back", x.map(0, 5, number(0)), 2);
        due.is("that is it already", x.map(0, 5, number(0)), 0);
    }

    private static void refusals() {
        NumberRows2 x = withGiven(2);
        x.map(1, 1, number(0));
        int[] senders = {-1, 100, Integer.MIN_VALUE, Integer.MAX_VALUE};
        for (int sender : senders) {
            due.is("map(" + sender + ", 1, given)", x.map(sender, 1, number(0)), Due.OUTSIDE);
            due.is("UNKNOWN goes before OUTSIDE", x.map(sender, 1, number(2)), Due.UNKNOWN);
            due.is("named(" + sender + ", 1)", x.named(sender, 1), Due.UNKNOWN);
        }
        long[] references = {-1, Long.MIN_VALUE};
        for (long reference : references) {
            due.is("map(1, " + reference + ", given)", x.map(1, reference, number(0)), Due.OUTSIDE);
            due.is("UNKNOWN goes before OUTSIDE", x.map(1, reference, number(2)), Due.UNKNOWN);
        }
        long[] none = {0, -1, Due.UNKNOWN, Due.M - 1, 11 * Due.M, Due.number(1, 0), Long.MAX_VALUE, Long.MIN_VALUE};
        for (long number : none) {
            due.is("map(1, 2, " + number + ")", x.map(1, 2, number), Due.UNKNOWN);
            due.is("UNKNOWN goes before STATE", x.map(1, 1, number), Due.UNKNOWN);
        }
        due.is("refusals change nothing", x.named(1, 1), number(0));
        due.is("refusals change nothing", x.named(1, 2), Due.UNKNOWN);
    }

    private static void barredNumbers() {
        NumberRows2 x = withGiven(2);
        x.map(1, 1, number(0));
        x.bar(0, 0);
        due.is("the name of a barred number", x.map(1, 1, number(0)), Due.UNKNOWN);
        due.is("a new name of it", x.map(1, 2, number(0)), Due.UNKNOWN);
        due.is("its name stays", x.named(1, 1), number(0));
        due.is("its name is not free", x.map(1, 1, number(1)), Due.STATE);
    }

    private static void room() {
        NumberRows2 x = withGiven(4);
        for (int k = 0; k < 300; k++) {
            due.is("name " + k, x.map(k % 100, k / 100, number(k / 100)), 1);
        }
        due.is("name 301", x.map(0, 7, number(3)), Due.ROOM);
        due.is("name 301 is none", x.named(0, 7), Due.UNKNOWN);
        due.is("no new name", x.map(99, 2, number(2)), 0);
        due.is("a name for another", x.map(99, 8, number(2)), 2);
        due.is("the 300 stay full by that", x.map(99, 2, number(3)), Due.ROOM);
        due.is("STATE goes before ROOM", x.map(0, 0, number(3)), Due.STATE);
        due.is("OUTSIDE goes before ROOM", x.map(100, 0, number(3)), Due.OUTSIDE);
        due.is("UNKNOWN goes before ROOM", x.map(0, 7, number(4)), Due.UNKNOWN);
        due.is("the last name", x.named(99, 8), number(2));
    }
}
