public final class Promise04LetterTest {
    private static final Due due = new Due();
    private static final String LETTERS = "0123456789ABCDEFGHJKLMNPQRSTUVW";
    private static final int[] WEIGHTS = {3, 8, 5, 12, 7, 20, 11, 25, 1};

    public static void main(String[] args) {
        NumberRows2 x = new NumberRows2();
        wrongInputs(x);
        knownForms(x);
        everyLetter(x);
        check(x);
        due.end();
    }

    private static void wrongInputs(NumberRows2 x) {
        long[] none = {Due.M - 1, 11 * Due.M, 0, -1, 1, Long.MIN_VALUE, Long.MAX_VALUE};
        int[] places = {0, 8, 9, -1, Integer.MIN_VALUE, Integer.MAX_VALUE};
        for (long number : none) {
            for (int i : places) {
                due.is("letter(" + number + ", " + i + ")", x.letter(number, i), Due.UNKNOWN);
            }
        }
        long[] numbers = {Due.M, 11 * Due.M - 1, Due.number(4, 123456789)};
        for (long number : numbers) {
            due.letterThrows(x, number, -1);
            due.letterThrows(x, number, 9);
            due.letterThrows(x, number, Integer.MIN_VALUE);
            due.letterThrows(x, number, Integer.MAX_VALUE);
        }
    }

    private static void knownForms(NumberRows2 x) {
        form(x, Due.number(0, 0), "000000000");
        form(x, Due.number(0, 1), "000000016");
        // 3 * 1 is 3, so the one that checks is 28, a U.
        form(x, Due.number(1, 0), "10000000U");
        // 9 * 3 + 30 * (8 + 5 + 12 + 7 + 20 + 11 + 25) is 2667, 31 * 86 is 2666, and 30 is lacking.
        form(x, Due.number(9, Due.M - 1), "9WWWWWWWW");
        form(x, Due.number(0, 31), "00000010L");
    }

    private static void form(NumberRows2 x, long number, String want) {
        String got = Due.form(x, number);
        if (!got.equals(want)) {
            due.tell("the form of " + number + " is " + got + ", due is " + want);
        }
    }

    private static void everyLetter(NumberRows2 x) {
        long power = 1;
        for (int i = 7; i >= 1; i--) {
            for (int v = 0; v < 31; v++) {
                due.is("letter " + i + " of value " + v, x.letter(Due.number(6, v * power), i), LETTERS.charAt(v));
            }
            power = power * 31;
        }
        for (int service = 0; service < 10; service++) {
            due.is("service " + service, x.letter(Due.number(service, 77), 0), '0' + service);
        }
    }

    private static void check(NumberRows2 x) {
        for (int k = 0; k < 1000; k++) {
            long number = Due.number(k % 10, k * 27000001L % Due.M);
            int sum = 0;
            for (int i = 0; i < 9; i++) {
                sum += WEIGHTS[i] * LETTERS.indexOf(x.letter(number, i));
            }
            due.is("the sum of " + number + " modulo 31", sum % 31, 0);
        }
    }
}
