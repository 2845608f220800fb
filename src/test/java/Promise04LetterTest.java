public final class Promise04LetterTest {
    private static final Due due = new Due();
    private static final long[] NUMBERS = {Due.M, 2 * Due.M - 1, 2 * Due.M, Due.number(4, 123456789), 11 * Due.M - 1};

    public static void main(String[] args) {
        firstAndLastLetter();
        letterIsACharacter();
        everyServicesLetter();
        tooSmallForANumber();
        tooLargeForANumber();
        unknownGoesBeforeTheException();
        letterBelowTheFirst();
        letterBehindTheLast();
        numberNeedNotBeGiven();
        due.end();
    }

    private static void letter(long number, int i, int want) {
        due.is("letter(" + number + ", " + i + ")", new NumberRows2().letter(number, i), want);
    }

    private static void firstAndLastLetter() {
        due.says("Letter i (0 .. 8) of a number's form");
        letter(11 * Due.M - 1, 0, '9');
        letter(11 * Due.M - 1, 8, 'W');
        letter(Due.number(1, 0), 0, '1');
        letter(Due.number(1, 0), 8, 'U');
    }

    private static void letterIsACharacter() {
        due.says("as a character");
        letter(Due.M, 0, 48);
        letter(Due.number(0, 9), 7, 57);
        letter(Due.number(0, 10), 7, 65);
        letter(Due.number(0, 30), 7, 87);
    }

    private static void everyServicesLetter() {
        due.says("nine letters: that of its service");
        for (int service = 0; service < 10; service++) {
            letter(Due.number(service, 0), 0, '0' + service);
            letter(Due.number(service, Due.M - 1), 0, '0' + service);
        }
    }

    private static void tooSmallForANumber() {
        due.says("UNKNOWN when it is none (from M on)");
        long[] none = {Due.M - 1, 1, 0, -1, -Due.M, Long.MIN_VALUE};
        for (long number : none) {
            letter(number, 0, Due.UNKNOWN);
            letter(number, 8, Due.UNKNOWN);
        }
        letter(Due.M, 0, '0');
    }

    private static void tooLargeForANumber() {
        due.says("UNKNOWN when it is none (below 11 M)");
        long[] none = {11 * Due.M, 12 * Due.M, Long.MAX_VALUE};
        for (long number : none) {
            letter(number, 0, Due.UNKNOWN);
            letter(number, 8, Due.UNKNOWN);
        }
        letter(11 * Due.M - 1, 0, '9');
    }

    private static void unknownGoesBeforeTheException() {
        due.says("ArrayIndexOutOfBoundsException when it is one: UNKNOWN when it is none");
        long[] none = {Due.M - 1, 11 * Due.M, 0, Long.MIN_VALUE, Long.MAX_VALUE};
        int[] places = {-1, 9, Integer.MIN_VALUE, Integer.MAX_VALUE};
        for (long number : none) {
            for (int i : places) {
                letter(number, i, Due.UNKNOWN);
            }
        }
    }

    private static void letterBelowTheFirst() {
        due.says("ArrayIndexOutOfBoundsException when it has no such letter: i below 0");
        for (long number : NUMBERS) {
            due.letterThrows(new NumberRows2(), number, -1);
            due.letterThrows(new NumberRows2(), number, Integer.MIN_VALUE);
        }
    }

    private static void letterBehindTheLast() {
        due.says("ArrayIndexOutOfBoundsException when it has no such letter: i above 8");
        for (long number : NUMBERS) {
            due.letterThrows(new NumberRows2(), number, 9);
            due.letterThrows(new NumberRows2(), number, Integer.MAX_VALUE);
        }
    }

    private static void numberNeedNotBeGiven() {
        due.says("of a number's form: a number that is barred, or an old one's, has one too");
        NumberRows2 x = new NumberRows2();
        x.bar(0, Due.M - 1);
        due.is("letter(2 M, 0)", x.letter(2 * Due.M, 0), '1');
        due.is("letter(old(9999999999), 0)", x.letter(x.old(9999999999L), 0), '9');
        due.is("letter of an old number itself", x.letter(9999999999L, 0), Due.UNKNOWN);
    }
}
