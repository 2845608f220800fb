/** "An object is used for at most 512 calls after it has been made": all 512 are answered as the promises say. */
public final class LifeTest {
    private static final Due due = new Due();

    public static void main(String[] args) {
        numbersToTheLastCall();
        lastCallBarsAllNumbers();
        lastCallAsksForTheLastNumber();
        lastCallNamesTheLastNumber();
        namesToTheLastCall();
        everythingFull();
        textsToTheLastCall();
        due.end();
    }

    /** After 1 + numbers calls. */
    private static NumberRows2 withGiven(int numbers) {
        NumberRows2 x = new NumberRows2();
        due.is("block(0, 1000, 1999)", x.block(0, 1000, 1999), 1);
        for (int k = 0; k < numbers; k++) {
            due.is("next, number " + k, x.next(0, k % 10), Due.number(k % 10, 1000 + k));
        }
        return x;
    }

    private static void numbersToTheLastCall() {
        due.says("at most 512 calls: a block and 511 numbers");
        withGiven(511);
    }

    private static void lastCallBarsAllNumbers() {
        due.says("at most 512 calls: the last one bars 510 numbers");
        due.is("bar(0, M - 1)", withGiven(510).bar(0, Due.M - 1), 510);
    }

    private static void lastCallAsksForTheLastNumber() {
        due.says("at most 512 calls: the last one asks for the 510th number");
        due.is("given", withGiven(510).given(Due.number(509 % 10, 1509)), true);
    }

    private static void lastCallNamesTheLastNumber() {
        due.says("at most 512 calls: the last one names the 510th number");
        due.is("map", withGiven(510).map(99, Long.MAX_VALUE, Due.number(509 % 10, 1509)), 1);
    }

    private static void namesToTheLastCall() {
        due.says("at most 512 calls: 300 names, and then others for one of them");
        NumberRows2 x = withGiven(3);
        for (int k = 0; k < 300; k++) {
            due.is("name " + k, x.map(k % 100, k / 100, Due.number(k / 100, 1000 + k / 100)), 1);
        }
        for (int k = 0; k < 207; k++) {
            due.is("another name " + k, x.map(99, 1000 + k, Due.number(2, 1002)), 2);
        }
        due.is("the last of them", x.named(99, 1206), Due.number(2, 1002));
    }

    private static void everythingFull() {
        due.says("at most 512 calls: 50 blocks, 50 barred rows, 300 names and 60 characters");
        NumberRows2 x = States.full();
        due.is("block", x.block(2, 13, 19), Due.ROOM);
        due.is("bar", x.bar(13, 19), Due.ROOM);
        due.is("map", x.map(50, 7, States.UNNAMED), Due.ROOM);
        x.type('?');
        due.is("read()", x.read(), Due.M);
        for (int k = 24; k <= 29; k++) {
            due.is("next(1, 9)", x.next(1, 9), Due.number(9, k));
        }
        due.is("next(1, 9)", x.next(1, 9), 0);
        for (int k = 0; k < 34; k++) {
            due.is("next(7, 0)", x.next(7, 0), Due.number(0, 1000 + k / 2 * 10 + k % 2));
        }
        due.is("next(8, 0), call 512", x.next(8, 0), Due.number(0, 3001));
    }

    private static void textsToTheLastCall() {
        due.says("at most 512 calls: 51 forms are typed and read");
        NumberRows2 x = new NumberRows2();
        for (int k = 0; k < 51; k++) {
            due.is("text " + k, Due.typeAndRead(x, "10000000U"), Due.number(1, 0));
        }
        due.is("read(), call 511", x.read(), -1);
        due.is("read(), call 512", x.read(), -1);
    }
}
