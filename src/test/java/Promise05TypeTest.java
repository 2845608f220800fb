public final class Promise05TypeTest {
    public static void main(String[] args) {
        Due due = new Due();
        NumberRows2 x = new NumberRows2();
        Due.type(x, "0000");
        Due.type(x, "00000");
        due.is("characters follow one another", x.read(), Due.number(0, 0));

        Due.type(x, " ".repeat(59));
        due.is("59 characters", x.read(), -60);
        Due.type(x, " ".repeat(60));
        due.is("60 characters", x.read(), -61);
        Due.type(x, " ".repeat(61));
        due.is("61 characters", x.read(), -61);
        Due.type(x, " ".repeat(51) + "000000000");
        due.is("a form up to the 60th", x.read(), Due.number(0, 0));
        Due.type(x, " ".repeat(51) + "000000000" + "!");
        due.is("the 61st is not typed", x.read(), Due.number(0, 0));
        Due.type(x, " ".repeat(52) + "000000000");
        due.is("a form beyond the 60th", x.read(), -61);
        Due.type(x, "000000000");
        due.is("there is room again after a read", x.read(), Due.number(0, 0));

        // Characters whose lower bits are those of '0' or of a blank.
        int[] wide = {65536 + 48, 256 + 48, Integer.MIN_VALUE + 48, 65536 + 32, -1, Integer.MAX_VALUE, Integer.MIN_VALUE};
        for (int c : wide) {
            x.type(c);
            Due.type(x, "00000000");
            due.is("type(" + c + ")", x.read(), -1);
        }
        due.end();
    }
}
