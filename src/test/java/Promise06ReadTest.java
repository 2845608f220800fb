public final class Promise06ReadTest {
    private static final Due due = new Due();
    private static final String LETTERS = "0123456789ABCDEFGHJKLMNPQRSTUVW";

    public static void main(String[] args) {
        NumberRows2 x = new NumberRows2();
        forms(x);
        texts(x);
        everyCharacter(x);
        everyCheck(x);
        leavesTheRest();
        due.end();
    }

    private static void forms(NumberRows2 x) {
        for (int k = 0; k < 1000; k++) {
            long number = Due.number(k % 10, k * 27512614L);
            String form = Due.form(x, number);
            read(x, form, number);
            read(x, form.toLowerCase(), number);
            read(x, "  " + form.substring(0, 4) + "   " + form.substring(4) + " ", number);
            read(x, form + "0", -10);
        }
        read(x, "9WWWWWWWW", Due.number(9, Due.M - 1));
        read(x, "9wWwWwWwW", Due.number(9, Due.M - 1));
    }

    private static void texts(NumberRows2 x) {
        read(x, "", -1);
        read(x, " ", -2);
        read(x, "0", -2);
        read(x, "00000000", -9);
        read(x, "0 0 0 0 0 0 0 0 ", -17);
        read(x, "000000001", -9);
        read(x, "00000000 1", -10);
        read(x, "000000000 ", Due.number(0, 0));
        read(x, "000000000  0", -12);
        read(x, "000000000  ?", -12);
        read(x, "000000000 000000000", -11);
        read(x, "A00000000", -1);
        read(x, " A", -2);
        read(x, "  w", -3);
        read(x, "0O", -2);
        read(x, "00I?", -3);
        read(x, "0o0i", -2);
        read(x, "0\t", -2);
        read(x, "00-0", -3);
    }

    private static void everyCharacter(NumberRows2 x) {
        for (int c = -300; c < 300; c++) {
            char great = c >= 'a' && c <= 'z' ? (char) (c - 32) : c > 0 ? (char) c : '?';
            int v = LETTERS.indexOf(great);
            x.type(c);
            due.is("first character " + c, x.read(), c == 32 || v >= 0 && v < 10 ? -2 : -1);
            for (int place = 1; place < 8; place++) {
                Due.type(x, "0".repeat(place));
                x.type(c);
                due.is("character " + c + " at " + place, x.read(), c == 32 || v >= 0 ? -2 - place : -1 - place);
            }
        }
    }

    private static void everyCheck(NumberRows2 x) {
        for (int k = 0; k < 31; k++) {
            long number = Due.number(k % 10, k * 888888888L + k);
            String form = Due.form(x, number);
            for (int v = 0; v < 31; v++) {
                char c = LETTERS.charAt(v);
                read(x, form.substring(0, 8) + c, c == form.charAt(8) ? number : -9);
            }
        }
    }

    private static void leavesTheRest() {
        NumberRows2 x = new NumberRows2();
        due.is("read gives nothing", Due.typeAndRead(x, "000000000"), Due.number(0, 0));
        due.is("given(M)", x.given(Due.number(0, 0)), false);
        due.is("nothing is typed after a read", x.read(), -1);
        due.is("a text that is wrong", Due.typeAndRead(x, "00?"), -3);
        due.is("nothing is typed after that either", x.read(), -1);
    }

    private static void read(NumberRows2 x, String text, long want) {
        due.is("read of '" + text + "'", Due.typeAndRead(x, text), want);
    }
}
