public final class Promise11NamedTest {
    private static final Due due = new Due();

    public static void main(String[] args) {
        aSendersReference();
        nothingWasNamed();
        anotherReference();
        anotherSender();
        noSender();
        noReference();
        aNameThatIsNoneAnyMore();
        aBarredNumbersName();
        firstAndLastName();
        due.end();
    }

    private static void named(NumberRows2 x, int sender, long reference, long want) {
        due.is("named(" + sender + ", " + reference + ")", x.named(sender, reference), want);
    }

    /** An object in which the reference 4 of sender 3 names the number of serial 0, of service 0. */
    private static NumberRows2 withName() {
        NumberRows2 x = new NumberRows2();
        x.block(0, 0, 9);
        x.map(3, 4, x.next(0, 0));
        return x;
    }

    private static void aSendersReference() {
        due.says("The number that a sender's reference names");
        NumberRows2 x = withName();
        long second = x.next(0, 9);
        x.map(4, 3, second);
        x.map(3, Long.MAX_VALUE, second);
        x.map(0, 0, second);
        named(x, 3, 4, Due.M);
        named(x, 4, 3, second);
        named(x, 3, Long.MAX_VALUE, second);
        named(x, 0, 0, second);
    }

    private static void nothingWasNamed() {
        due.says("UNKNOWN: there are no names");
        NumberRows2 x = new NumberRows2();
        named(x, 0, 0, Due.UNKNOWN);
        named(x, 99, Long.MAX_VALUE, Due.UNKNOWN);
    }

    private static void anotherReference() {
        due.says("UNKNOWN: the sender has no such reference");
        NumberRows2 x = withName();
        named(x, 3, 3, Due.UNKNOWN);
        named(x, 3, 5, Due.UNKNOWN);
        // References whose lower bits are the same.
        named(x, 3, 4 + (1L << 32), Due.UNKNOWN);
        named(x, 3, 4 + Long.MIN_VALUE, Due.UNKNOWN);
    }

    private static void anotherSender() {
        due.says("UNKNOWN: the reference is another sender's");
        NumberRows2 x = withName();
        named(x, 2, 4, Due.UNKNOWN);
        named(x, 4, 4, Due.UNKNOWN);
        // Rows that were never used hold zeroes, which must not count as names.
        named(x, 0, 0, Due.UNKNOWN);
    }

    private static void noSender() {
        due.says("UNKNOWN: there is no such sender");
        NumberRows2 x = withName();
        int[] senders = {-1, 100, 103, Integer.MIN_VALUE, Integer.MAX_VALUE};
        for (int sender : senders) {
            named(x, sender, 4, Due.UNKNOWN);
        }
    }

    private static void noReference() {
        due.says("UNKNOWN: there is no such reference");
        NumberRows2 x = withName();
        named(x, 3, -1, Due.UNKNOWN);
        named(x, 3, -4, Due.UNKNOWN);
        named(x, 3, Long.MIN_VALUE, Due.UNKNOWN);
    }

    private static void aNameThatIsNoneAnyMore() {
        due.says("another one of that sender, which is none then");
        NumberRows2 x = withName();
        x.map(3, 5, Due.M);
        named(x, 3, 4, Due.UNKNOWN);
        named(x, 3, 5, Due.M);
    }

    private static void aBarredNumbersName() {
        due.says("The number that a sender's reference names: though it is barred");
        NumberRows2 x = withName();
        x.bar(0, 9);
        named(x, 3, 4, Due.M);
    }

    private static void firstAndLastName() {
        due.says("The number that a sender's reference names: the first and the last of 300");
        NumberRows2 x = new NumberRows2();
        x.block(0, 0, 9);
        for (int k = 0; k < 3; k++) {
            long number = x.next(0, k);
            for (int sender = 0; sender < 100; sender++) {
                x.map(sender, k, number);
            }
        }
        named(x, 0, 0, Due.number(0, 0));
        named(x, 99, 2, Due.number(2, 2));
        named(x, 99, 3, Due.UNKNOWN);
    }
}
