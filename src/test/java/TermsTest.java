/** The boundary cases of 'Terms' that belong to no one promise: letters, numbers and forms. */
public final class TermsTest {
    private static final Due due = new Due();
    private static final String LETTERS = "0123456789ABCDEFGHJKLMNPQRSTUVW";
    private static final int[] WEIGHTS = {3, 8, 5, 12, 7, 20, 11, 25, 1};

    public static void main(String[] args) {
        lettersFromFirstToLast();
        signsThatAreNoLetters();
        numberOfSerials();
        leastNumber();
        greatestNumber();
        serialsEndAndNextServiceBegins();
        highestLetterFirst();
        lettersCarry();
        weights();
        checkIsZeroWhenNothingLacks();
        checkIsTheLastLetter();
        everyFormsSum();
        due.end();
    }

    private static void lettersFromFirstToLast() {
        due.says("letter v (0 .. 30) is the v-th");
        NumberRows2 x = new NumberRows2();
        for (int v = 0; v <= 30; v++) {
            due.is("letter v = " + v, x.letter(Due.number(0, v), 7), LETTERS.charAt(v));
        }
    }

    private static void signsThatAreNoLetters() {
        due.says("THE LETTERS are 0123456789ABCDEFGHJKLMNPQRSTUVW");
        for (char c : "IOXYZ/:@[`{".toCharArray()) {
            due.read("0" + c, -2);
        }
    }

    private static void numberOfSerials() {
        due.says("M is 31^7");
        NumberRows2 x = new NumberRows2();
        long m = 1;
        for (int k = 0; k < 7; k++) {
            m = m * 31;
        }
        due.is("bar(0, 31^7 - 1)", x.bar(0, m - 1), 0);
        due.is("bar(0, 31^7)", x.bar(0, m), Due.OUTSIDE);
    }

    private static void leastNumber() {
        due.says("SERVICE 0 .. 9, SERIAL 0 .. M - 1: the least number is M");
        due.form(Due.M, "000000000");
        due.read("000000000", Due.M);
        due.is("letter(M - 1, 0)", new NumberRows2().letter(Due.M - 1, 0), Due.UNKNOWN);
    }

    private static void greatestNumber() {
        due.says("SERVICE 0 .. 9, SERIAL 0 .. M - 1: the greatest number is 11 M - 1");
        // 9 * 3 + 30 * (8 + 5 + 12 + 7 + 20 + 11 + 25) is 2667, 31 * 86 is 2666, and 30 is lacking.
        due.form(11 * Due.M - 1, "9WWWWWWWW");
        due.read("9WWWWWWWW", 11 * Due.M - 1);
        due.is("letter(11 M, 0)", new NumberRows2().letter(11 * Due.M, 0), Due.UNKNOWN);
    }

    private static void serialsEndAndNextServiceBegins() {
        due.says("(SERVICE + 1) * M + SERIAL");
        for (int service = 0; service < 9; service++) {
            long last = Due.number(service, Due.M - 1);
            String before = Due.form(last).substring(0, 8);
            String behind = Due.form(last + 1).substring(0, 8);
            due.is(before + " is the service's last", before.equals(service + "WWWWWWW"), true);
            due.is(behind + " is the next one's first", behind.equals((service + 1) + "0000000"), true);
        }
    }

    private static void highestLetterFirst() {
        due.says("base 31, the highest first");
        long power = 1;
        for (int i = 7; i >= 1; i--) {
            NumberRows2 x = new NumberRows2();
            for (int v = 0; v < 31; v++) {
                due.is("letter " + i + " of value " + v, x.letter(Due.number(6, v * power), i), LETTERS.charAt(v));
            }
            power = power * 31;
        }
    }

    private static void lettersCarry() {
        due.says("its serial in seven letters (base 31)");
        long power = 31;
        for (int k = 1; k < 7; k++) {
            String full = "0".repeat(8 - k) + "W".repeat(k);
            String carried = "0".repeat(7 - k) + "1" + "0".repeat(k);
            due.is("31^" + k + " - 1", Due.form(Due.number(0, power - 1)).startsWith(full), true);
            due.is("31^" + k, Due.form(Due.number(0, power)).startsWith(carried), true);
            power = power * 31;
        }
    }

    private static void weights() {
        due.says("the weights are 3 8 5 12 7 20 11 25 1");
        // The one that checks is 31 less the weight of the only letter that is not 0.
        String[] forms = {"10000000U", "01000000P", "00100000S", "00010000K", "00001000Q", "00000100B", "00000010L",
            "000000016"};
        long[] serials = {0, 887503681, 28629151, 923521, 29791, 961, 31, 1};
        for (int i = 0; i < forms.length; i++) {
            due.form(Due.number(i == 0 ? 1 : 0, serials[i]), forms[i]);
        }
        due.read("000000001", -9);
    }

    private static void checkIsZeroWhenNothingLacks() {
        due.says("one that CHECKS: the sum of all nine is divisible by 31: 0 when that of eight is");
        // 1 * 8 + 22 * 25 is 558, 31 * 18.
        due.form(Due.number(0, 887503681 + 22), "0100000N0");
        due.read("0100000N0", Due.number(0, 887503681 + 22));
    }

    private static void checkIsTheLastLetter() {
        due.says("one that CHECKS: the sum of all nine is divisible by 31: 1 lacks, or 30");
        // 26 * 25 is 650, 31 * 21 is 651; 5 * 25 is 125, 31 * 5 is 155.
        due.form(Due.number(0, 26), "0000000S1");
        due.form(Due.number(0, 5), "00000005W");
    }

    private static void everyFormsSum() {
        due.says("the sum of all nine, each letter's v times its weight, is divisible by 31");
        for (int k = 0; k < 1000; k++) {
            long number = Due.number(k % 10, k * 27000001L % Due.M);
            String form = Due.form(number);
            int sum = 0;
            for (int i = 0; i < 9; i++) {
                sum += WEIGHTS[i] * LETTERS.indexOf(form.charAt(i));
            }
            due.is("the sum of " + form + " modulo 31", sum % 31, 0);
        }
    }
}
