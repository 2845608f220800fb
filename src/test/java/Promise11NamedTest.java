public final class Promise11NamedTest {
    public static void main(String[] args) {
        Due due = new Due();
        NumberRows2 x = new NumberRows2();
        x.block(0, 0, 9);
        long first = x.next(0, 0);
        long second = x.next(0, 9);
        due.is("nothing named", x.named(3, 4), Due.UNKNOWN);
        x.map(3, 4, first);
        x.map(4, 3, second);
        x.map(3, Long.MAX_VALUE, second);
        due.is("named(3, 4)", x.named(3, 4), first);
        due.is("named(4, 3)", x.named(4, 3), second);
        due.is("the greatest reference", x.named(3, Long.MAX_VALUE), second);
        due.is("another reference", x.named(3, 3), Due.UNKNOWN);
        due.is("another sender", x.named(4, 4), Due.UNKNOWN);
        x.map(3, 5, first);
        due.is("a name that is none", x.named(3, 4), Due.UNKNOWN);
        due.is("the new one", x.named(3, 5), first);
        x.bar(0, 9);
        due.is("a barred number's name", x.named(3, 5), first);

        // Rows that were never used hold zeroes, which must not count as names.
        due.is("named(0, 0)", x.named(0, 0), Due.UNKNOWN);
        int[] senders = {-1, 100, Integer.MIN_VALUE, Integer.MAX_VALUE};
        for (int sender : senders) {
            due.is("named(" + sender + ", 5)", x.named(sender, 5), Due.UNKNOWN);
        }
        due.is("named(3, -1)", x.named(3, -1), Due.UNKNOWN);
        due.is("named(3, MIN)", x.named(3, Long.MIN_VALUE), Due.UNKNOWN);
        due.end();
    }
}
