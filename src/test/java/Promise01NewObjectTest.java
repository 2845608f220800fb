public final class Promise01NewObjectTest {
    private static final Due due = new Due();

    public static void main(String[] args) {
        noBlocks();
        allBlocksMayCome();
        nothingBarred();
        allBarredRowsMayCome();
        nothingTyped();
        nothingGiven();
        nothingNamed();
        objectsShareNothing();
        due.end();
    }

    private static void noBlocks() {
        due.says("No blocks");
        NumberRows2 x = new NumberRows2();
        for (int office = 0; office < 100; office++) {
            due.is("next(" + office + ", 0)", x.next(office, 0), 0);
        }
        due.is("a block of all serials", x.block(0, 0, 19999999999L), 1);
    }

    private static void allBlocksMayCome() {
        due.says("No blocks: there is room for all 50");
        NumberRows2 x = new NumberRows2();
        for (int b = 1; b <= 50; b++) {
            due.is("block " + b, x.block(0, b, b), b);
        }
    }

    private static void nothingBarred() {
        due.says("nothing barred");
        NumberRows2 first = new NumberRows2();
        first.block(0, 0, 19999999999L);
        due.is("next(0, 0) at the first serial", first.next(0, 0), Due.number(0, 0));
        NumberRows2 last = new NumberRows2();
        last.block(0, 19999999999L, 19999999999L);
        due.is("next(0, 0) at the last serial", last.next(0, 0), Due.number(0, 19999999999L));
    }

    private static void allBarredRowsMayCome() {
        due.says("nothing barred: there is room for all 50");
        NumberRows2 x = new NumberRows2();
        for (int r = 1; r <= 50; r++) {
            due.is("barred row " + r, x.bar(r, r), 0);
        }
    }

    private static void nothingTyped() {
        due.says("nothing typed");
        due.is("read()", new NumberRows2().read(), -1);
        due.read("000000000", Due.M);
    }

    private static void nothingGiven() {
        due.says("GIVEN are numbers that came by next");
        NumberRows2 x = new NumberRows2();
        due.is("given(M)", x.given(Due.M), false);
        due.is("given(0)", x.given(0), false);
        due.is("bar(0, M - 1)", x.bar(0, Due.M - 1), 0);
    }

    private static void nothingNamed() {
        due.says("a new object has no names");
        NumberRows2 x = new NumberRows2();
        due.is("named(0, 0)", x.named(0, 0), Due.UNKNOWN);
        due.is("map(0, 0, M)", x.map(0, 0, Due.M), Due.UNKNOWN);
    }

    private static void objectsShareNothing() {
        due.says("a new object, beside one that was used");
        NumberRows2 used = new NumberRows2();
        used.block(0, 0, 9);
        used.map(0, 0, used.next(0, 0));
        used.bar(5, 9);
        Due.type(used, "0");
        NumberRows2 x = new NumberRows2();
        due.is("read()", x.read(), -1);
        due.is("named(0, 0)", x.named(0, 0), Due.UNKNOWN);
        due.is("given(M)", x.given(Due.M), false);
        due.is("next(0, 0)", x.next(0, 0), 0);
        due.is("block(1, 5, 9)", x.block(1, 5, 9), 1);
        due.is("next(1, 0)", x.next(1, 0), Due.number(0, 5));
    }
}
