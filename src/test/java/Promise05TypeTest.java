public final class Promise05TypeTest {
    private static final Due due = new Due();

    public static void main(String[] args) {
        charactersFollowOneAnother();
        oneShortOfSixty();
        sixty();
        notTheSixtyFirst();
        formThatEndsWithTheSixtieth();
        formThatEndsBeyondTheSixtieth();
        roomAgainAfterARead();
        everyCharacterIsTyped();
        wideCharactersAreNotCut();
        due.end();
    }

    private static void charactersFollowOneAnother() {
        due.says("A character is typed");
        NumberRows2 x = new NumberRows2();
        Due.type(x, "0000");
        x.given(0);
        Due.type(x, "00016");
        due.is("read()", x.read(), Due.number(0, 1));
    }

    private static void oneShortOfSixty() {
        due.says("not when 60 are: 59 are");
        due.read(" ".repeat(58) + "0", -60);
        due.read(" ".repeat(58) + "?", -59);
    }

    private static void sixty() {
        due.says("not when 60 are: the 60th is typed");
        due.read(" ".repeat(60), -61);
        due.read(" ".repeat(59) + "?", -60);
    }

    private static void notTheSixtyFirst() {
        due.says("not when 60 are: the 61st is not");
        due.read(" ".repeat(61), -61);
        due.read(" ".repeat(60) + "?", -61);
        due.read(" ".repeat(51) + "000000000" + "?", Due.M);
        due.read(" ".repeat(200) + "?", -61);
    }

    private static void formThatEndsWithTheSixtieth() {
        due.says("not when 60 are: a form that ends there is whole");
        due.read(" ".repeat(51) + "000000000", Due.M);
    }

    private static void formThatEndsBeyondTheSixtieth() {
        due.says("not when 60 are: a form that ends behind it is not");
        due.read(" ".repeat(52) + "000000000", -61);
    }

    private static void roomAgainAfterARead() {
        due.says("not when 60 are: none are after a read");
        NumberRows2 x = new NumberRows2();
        due.is("read() of 61", Due.typeAndRead(x, " ".repeat(61)), -61);
        due.is("read() of a form", Due.typeAndRead(x, "000000000"), Due.M);
        due.is("read() of 60 again", Due.typeAndRead(x, " ".repeat(59) + "?"), -60);
    }

    private static void everyCharacterIsTyped() {
        due.says("A character is typed: one that cannot stand too");
        int[] odd = {0, -1, 127, 255, Integer.MIN_VALUE, Integer.MAX_VALUE};
        for (int c : odd) {
            NumberRows2 x = new NumberRows2();
            x.type(' ');
            x.type(c);
            due.is("read() of a blank and " + c, x.read(), -2);
        }
    }

    private static void wideCharactersAreNotCut() {
        due.says("A character is typed: it is not that of its lower bits");
        int[] wide = {256 + '0', 65536 + '0', Integer.MIN_VALUE + '0', 256 + ' ', 65536 + ' ', Integer.MIN_VALUE + ' '};
        for (int c : wide) {
            NumberRows2 x = new NumberRows2();
            x.type(c);
            Due.type(x, "000000000");
            due.is("read() of " + c + " before a form", x.read(), -1);
        }
    }
}
