public final class Promise10MapTest {
    private static final Due due = new Due();

    public static void main(String[] args) {
        aNewName();
        itWasThatAlready();
        anotherOneOfThatSender();
        theOneBeforeIsNoneThen();
        anotherSendersNameStays();
        oneReferenceOfTwoSenders();
        leastAndGreatestReference();
        firstAndLastSender();
        notGivenYet();
        barredSince();
        noNumber();
        senderTooSmall();
        senderTooLarge();
        referenceTooSmall();
        referenceOfAnotherNumber();
        referenceOfABarredNumber();
        room();
        noRoomIsNeededForNothingNew();
        noRoomIsNeededForAnotherOne();
        noRoomComesByBarring();
        due.end();
    }

    /** An object with a block of office 0 from serial 0 on, of which some numbers of service 0 are given. */
    private static NumberRows2 withGiven(int numbers) {
        NumberRows2 x = new NumberRows2();
        x.block(0, 0, 999);
        for (int k = 0; k < numbers; k++) {
            x.next(0, 0);
        }
        return x;
    }

    private static long number(int serial) {
        return Due.number(0, serial);
    }

    private static void map(NumberRows2 x, int sender, long reference, long number, int want) {
        due.is("map(" + sender + ", " + reference + ", " + number + ")", x.map(sender, reference, number), want);
    }

    private static void named(NumberRows2 x, int sender, long reference, long want) {
        due.is("named(" + sender + ", " + reference + ")", x.named(sender, reference), want);
    }

    private static void aNewName() {
        due.says("A sender's own reference is a number's name: 1");
        NumberRows2 x = withGiven(2);
        map(x, 3, 7, number(0), 1);
        map(x, 3, 8, number(1), 1);
        named(x, 3, 7, number(0));
        named(x, 3, 8, number(1));
    }

    private static void itWasThatAlready() {
        due.says("0 when it was that already");
        NumberRows2 x = withGiven(2);
        map(x, 3, 7, number(0), 1);
        map(x, 3, 8, number(1), 1);
        map(x, 3, 7, number(0), 0);
        map(x, 3, 8, number(1), 0);
        named(x, 3, 7, number(0));
    }

    private static void anotherOneOfThatSender() {
        due.says("2 when the number had another one of that sender");
        NumberRows2 x = withGiven(1);
        map(x, 3, 7, number(0), 1);
        map(x, 3, 8, number(0), 2);
        named(x, 3, 8, number(0));
        map(x, 3, 7, number(0), 2);
        map(x, 3, 7, number(0), 0);
        named(x, 3, 7, number(0));
    }

    private static void theOneBeforeIsNoneThen() {
        due.says("another one of that sender, which is none then");
        NumberRows2 x = withGiven(2);
        map(x, 3, 7, number(0), 1);
        map(x, 3, 8, number(0), 2);
        named(x, 3, 7, Due.UNKNOWN);
        map(x, 3, 7, number(1), 1);
        named(x, 3, 7, number(1));
        named(x, 3, 8, number(0));
    }

    private static void anotherSendersNameStays() {
        due.says("another one of that sender: not of another sender");
        NumberRows2 x = withGiven(1);
        map(x, 3, 7, number(0), 1);
        map(x, 4, 8, number(0), 1);
        map(x, 4, 9, number(0), 2);
        named(x, 3, 7, number(0));
        named(x, 4, 9, number(0));
    }

    private static void oneReferenceOfTwoSenders() {
        due.says("A sender's own reference");
        NumberRows2 x = withGiven(2);
        map(x, 3, 7, number(0), 1);
        map(x, 4, 7, number(1), 1);
        map(x, 5, 7, number(1), 1);
        named(x, 3, 7, number(0));
        named(x, 4, 7, number(1));
    }

    private static void leastAndGreatestReference() {
        due.says("a reference below 0: 0 and the greatest are not");
        NumberRows2 x = withGiven(2);
        map(x, 3, 0, number(0), 1);
        map(x, 3, Long.MAX_VALUE, number(1), 1);
        named(x, 3, 0, number(0));
        named(x, 3, Long.MAX_VALUE, number(1));
    }

    private static void firstAndLastSender() {
        due.says("A sender's (0 .. 99)");
        NumberRows2 x = withGiven(2);
        map(x, 0, 7, number(0), 1);
        map(x, 99, 7, number(1), 1);
        named(x, 0, 7, number(0));
        named(x, 99, 7, number(1));
    }

    private static void notGivenYet() {
        due.says("UNKNOWN (the number is not given): not yet");
        NumberRows2 x = withGiven(1);
        map(x, 3, 7, number(1), Due.UNKNOWN);
        map(x, 3, 7, Due.number(1, 0), Due.UNKNOWN);
        named(x, 3, 7, Due.UNKNOWN);
        x.next(0, 0);
        map(x, 3, 7, number(1), 1);
    }

    private static void barredSince() {
        due.says("UNKNOWN (the number is not given): not any more");
        NumberRows2 x = withGiven(2);
        map(x, 3, 7, number(0), 1);
        x.bar(0, 0);
        map(x, 3, 7, number(0), Due.UNKNOWN);
        map(x, 3, 8, number(0), Due.UNKNOWN);
        map(x, 4, 7, number(0), Due.UNKNOWN);
        named(x, 3, 7, number(0));
        named(x, 3, 8, Due.UNKNOWN);
    }

    private static void noNumber() {
        due.says("UNKNOWN (the number is not given): it is none");
        NumberRows2 x = withGiven(1);
        long[] none = {0, -1, Due.UNKNOWN, Due.M - 1, 11 * Due.M, Long.MAX_VALUE, Long.MIN_VALUE};
        for (long number : none) {
            map(x, 3, 7, number, Due.UNKNOWN);
        }
        map(x, 3, 7, x.old(0), Due.UNKNOWN);
    }

    private static void senderTooSmall() {
        due.says("OUTSIDE (a sender is not 0 .. 99): below 0");
        NumberRows2 x = withGiven(1);
        map(x, -1, 7, number(0), Due.OUTSIDE);
        map(x, Integer.MIN_VALUE, 7, number(0), Due.OUTSIDE);
        named(x, -1, 7, Due.UNKNOWN);
    }

    private static void senderTooLarge() {
        due.says("OUTSIDE (a sender is not 0 .. 99): above 99");
        NumberRows2 x = withGiven(1);
        map(x, 100, 7, number(0), Due.OUTSIDE);
        map(x, Integer.MAX_VALUE, 7, number(0), Due.OUTSIDE);
        named(x, 100, 7, Due.UNKNOWN);
    }

    private static void referenceTooSmall() {
        due.says("OUTSIDE (a reference below 0)");
        NumberRows2 x = withGiven(1);
        map(x, 3, -1, number(0), Due.OUTSIDE);
        map(x, 3, Long.MIN_VALUE, number(0), Due.OUTSIDE);
        named(x, 3, -1, Due.UNKNOWN);
        map(x, 3, 7, number(0), 1);
        map(x, 3, -1, number(0), Due.OUTSIDE);
        named(x, 3, 7, number(0));
    }

    private static void referenceOfAnotherNumber() {
        due.says("STATE (the reference is that of another number)");
        NumberRows2 x = withGiven(2);
        map(x, 3, 7, number(0), 1);
        map(x, 3, 7, number(1), Due.STATE);
        map(x, 3, 8, number(1), 1);
        map(x, 3, 7, number(1), Due.STATE);
        map(x, 3, 8, number(0), Due.STATE);
        named(x, 3, 7, number(0));
        named(x, 3, 8, number(1));
    }

    private static void referenceOfABarredNumber() {
        due.says("STATE (the reference is that of another number): though that is barred");
        NumberRows2 x = withGiven(2);
        map(x, 3, 7, number(0), 1);
        x.bar(0, 0);
        map(x, 3, 7, number(1), Due.STATE);
        named(x, 3, 7, number(0));
    }

    /** An object with 300 names: the references 0 to 2 of each sender are the numbers 0 to 2; number 3 has none. */
    private static NumberRows2 withAllNames() {
        NumberRows2 x = withGiven(4);
        for (int k = 0; k < 300; k++) {
            map(x, k % 100, k / 100, number(k / 100), 1);
        }
        return x;
    }

    private static void room() {
        due.says("ROOM (300 names)");
        NumberRows2 x = withAllNames();
        map(x, 0, 7, number(3), Due.ROOM);
        map(x, 99, 7, number(3), Due.ROOM);
        named(x, 0, 7, Due.UNKNOWN);
        named(x, 0, 0, number(0));
        named(x, 99, 2, number(2));
    }

    private static void noRoomIsNeededForNothingNew() {
        due.says("ROOM (300 names): 0 when it was that already");
        NumberRows2 x = withAllNames();
        map(x, 0, 0, number(0), 0);
        map(x, 99, 2, number(2), 0);
    }

    private static void noRoomIsNeededForAnotherOne() {
        due.says("ROOM (300 names): 2 when another one is none then");
        NumberRows2 x = withAllNames();
        map(x, 99, 8, number(2), 2);
        named(x, 99, 8, number(2));
        named(x, 99, 2, Due.UNKNOWN);
        map(x, 99, 2, number(3), Due.ROOM);
    }

    private static void noRoomComesByBarring() {
        due.says("ROOM (300 names): names of barred numbers are names");
        NumberRows2 x = withAllNames();
        x.bar(0, 2);
        map(x, 0, 7, number(3), Due.ROOM);
        named(x, 0, 0, number(0));
    }
}
