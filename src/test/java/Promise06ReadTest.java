import java.util.Locale;

public final class Promise06ReadTest {
    private static final Due due = new Due();
    private static final String LETTERS = "0123456789ABCDEFGHJKLMNPQRSTUVW";

    public static void main(String[] args) {
        forms();
        leastAndGreatestForm();
        nothingIsTypedAfterANumber();
        nothingIsTypedAfterAWrongText();
        nothingIsTypedAfterTooFew();
        blanksAnywhere();
        otherWhiteSignsAreNoBlanks();
        smallLetters();
        smallSignsThatAreNoLetters();
        firstWrongPlace();
        blanksCountAsPlaces();
        firstLetter();
        middleLetters();
        theOneThatChecks();
        behindTheForm();
        emptyText();
        tooFew();
        wrongBeforeTooFew();
        readGivesNothing();
        due.end();
    }

    private static void forms() {
        due.says("What was typed is read as a form: the number");
        for (int k = 0; k < 1000; k++) {
            long number = Due.number(k % 10, k * 27512614L);
            due.read(Due.form(number), number);
        }
    }

    private static void leastAndGreatestForm() {
        due.says("What was typed is read as a form: the least and the greatest");
        due.read("000000000", Due.M);
        due.read("9WWWWWWWW", 11 * Due.M - 1);
    }

    private static void nothingIsTypedAfterANumber() {
        due.says("nothing is typed then: after a number");
        NumberRows2 x = new NumberRows2();
        due.is("read() of a form", Due.typeAndRead(x, "000000000"), Due.M);
        due.is("read()", x.read(), -1);
    }

    private static void nothingIsTypedAfterAWrongText() {
        due.says("nothing is typed then: after a text that is wrong");
        NumberRows2 x = new NumberRows2();
        due.is("read() of 00?", Due.typeAndRead(x, "00?"), -3);
        due.is("read()", x.read(), -1);
        due.is("read() of a form", Due.typeAndRead(x, "000000000"), Due.M);
    }

    private static void nothingIsTypedAfterTooFew() {
        due.says("nothing is typed then: after too few");
        NumberRows2 x = new NumberRows2();
        due.is("read() of 0000", Due.typeAndRead(x, "0000"), -5);
        due.is("read() of 00000", Due.typeAndRead(x, "00000"), -6);
        due.is("read()", x.read(), -1);
    }

    private static void blanksAnywhere() {
        due.says("blanks (32) may stand anywhere");
        String form = "10000000U";
        for (int at = 0; at <= 9; at++) {
            due.read(form.substring(0, at) + " " + form.substring(at), Due.number(1, 0));
            due.read(form.substring(0, at) + " ".repeat(51) + form.substring(at), Due.number(1, 0));
        }
        due.read(" 1 0 0 0 0 0 0 0 U ", Due.number(1, 0));
    }

    private static void otherWhiteSignsAreNoBlanks() {
        due.says("blanks (32): no other sign is one");
        char[] signs = {0, 9, 10, 13, 31, 33, 160};
        for (char c : signs) {
            due.read("0" + c, -2);
            due.read("000000000" + c, -10);
        }
    }

    private static void smallLetters() {
        due.says("small letters stand for great ones");
        for (int v = 10; v < 31; v++) {
            long number = Due.number(v % 10, v * 31L + v);
            due.read(Due.form(number).toLowerCase(Locale.ROOT), number);
        }
        due.read("9wWwWwWwW", 11 * Due.M - 1);
        due.read("9WwWwWwWw", 11 * Due.M - 1);
    }

    private static void smallSignsThatAreNoLetters() {
        due.says("small letters stand for great ones: not where there is no great one");
        for (char c : "ioxyz".toCharArray()) {
            due.read("0" + c, -2);
        }
        // 32 below a digit and 32 above 'a' less one are no letters' other forms.
        int[] signs = {'0' - 32, '9' + 32, '`', '{'};
        for (int c : signs) {
            NumberRows2 x = new NumberRows2();
            x.type('0');
            x.type(c);
            due.is("read() of 0 and " + c, x.read(), -2);
        }
    }

    private static void firstWrongPlace() {
        due.says("-1 less the place of the first character that cannot stand where it does");
        for (int place = 0; place < 9; place++) {
            due.read("0".repeat(place) + "?" + "0".repeat(8 - place), -1 - place);
            due.read("0".repeat(place) + "??", -1 - place);
        }
    }

    private static void blanksCountAsPlaces() {
        due.says("the place of the first character: blanks have places");
        due.read(" ?", -2);
        due.read("  w", -3);
        due.read("0 0 ?", -5);
        due.read(" ".repeat(59) + "?", -60);
    }

    private static void firstLetter() {
        due.says("the first letter is 0 .. 9");
        for (int c = -300; c < 300; c++) {
            NumberRows2 x = new NumberRows2();
            x.type(c);
            due.is("read() of " + c, x.read(), c == 32 || c >= '0' && c <= '9' ? -2 : -1);
        }
        due.read("A00000000", -1);
        due.read("a", -1);
        due.read("9", -2);
    }

    private static void middleLetters() {
        due.says("the first character that cannot stand: the second to the eighth are letters");
        for (int place = 1; place < 8; place++) {
            for (int c = -300; c < 300; c++) {
                NumberRows2 x = new NumberRows2();
                Due.type(x, "0".repeat(place));
                x.type(c);
                boolean stands = c == 32 || valueOf(c) >= 0;
                due.is("read() of " + c + " at " + place, x.read(), stands ? -2 - place : -1 - place);
            }
        }
    }

    private static int valueOf(int c) {
        return c < 0 || c > 127 ? -1 : LETTERS.indexOf(Character.toUpperCase((char) c));
    }

    private static void theOneThatChecks() {
        due.says("the ninth the one that checks");
        for (int k = 0; k < 31; k++) {
            long number = Due.number(k % 10, k * 888888888L + k);
            String form = Due.form(number);
            for (char c : LETTERS.toCharArray()) {
                due.read(form.substring(0, 8) + c, c == form.charAt(8) ? number : -9);
            }
            due.read(form.substring(0, 8) + "?", -9);
            due.read(form.substring(0, 8) + "  ?", -11);
        }
    }

    private static void behindTheForm() {
        due.says("behind it blanks alone");
        due.read("000000000" + " ".repeat(51), Due.M);
        due.read("0000000000", -10);
        due.read("000000000?", -10);
        due.read("000000000  0", -12);
        due.read("000000000 000000000", -11);
        due.read("000000000" + " ".repeat(50) + "0", -60);
        due.read("000000000" + " ".repeat(51) + "0", Due.M);
    }

    private static void emptyText() {
        due.says("the length if there are too few: nothing was typed");
        due.read("", -1);
    }

    private static void tooFew() {
        due.says("the length if there are too few");
        for (int length = 1; length <= 8; length++) {
            due.read("0".repeat(length), -1 - length);
            due.read(" " + "0".repeat(length) + "  ", -4 - length);
        }
        due.read(" ", -2);
        due.read(" ".repeat(60), -61);
        due.read("00000000" + " ".repeat(52), -61);
    }

    private static void wrongBeforeTooFew() {
        due.says("the first character that cannot stand, the length if there are too few: the first of them");
        due.read("0?0", -2);
        due.read("00I?", -3);
        due.read("A", -1);
    }

    private static void readGivesNothing() {
        due.says("the number: it is not given by that");
        NumberRows2 x = new NumberRows2();
        x.block(0, 0, 5);
        due.is("read() of a form", Due.typeAndRead(x, "000000000"), Due.M);
        due.is("given(M)", x.given(Due.M), false);
        due.is("next(0, 0)", x.next(0, 0), Due.M);
    }
}
