import java.util.Arrays;

/** 'REFUSALS' in 'Terms': of several the first one; a call that is refused, or throws, changes nothing. */
public final class RefusalsTest {
    private static final Due due = new Due();

    private interface Call {
        long on(NumberRows2 x);
    }

    public static void main(String[] args) {
        statesAreAsSaid();
        firstOfSeveralInBlock();
        firstOfSeveralInBar();
        firstOfSeveralInMap();
        unknownBeforeAnException();
        blockChangesNothing();
        nextChangesNothing();
        letterChangesNothing();
        barChangesNothing();
        oldChangesNothing();
        mapChangesNothing();
        namedChangesNothing();
        callsThatAskChangeNothing();
        due.end();
    }

    private static void statesAreAsSaid() {
        due.says("the objects that these tests use");
        NumberRows2 x = States.used();
        due.is("used: block", x.block(5, 100, 100), 4);
        due.is("used: named", x.named(0, 6), States.TWENTY);
        due.is("used: given", x.given(States.UNNAMED), true);
        due.is("used: barred", x.given(States.BARRED), false);
        due.is("used: read", x.read(), -7);
        NumberRows2 y = States.full();
        due.is("full: block", y.block(5, 100, 100), Due.ROOM);
        due.is("full: bar", y.bar(100, 100), Due.ROOM);
        due.is("full: map", y.map(50, 7, States.UNNAMED), Due.ROOM);
        due.is("full: the last name", y.named(1, 101), States.TWENTY);
        due.is("full: the last block, the last barred row", y.next(8, 0), Due.number(0, 3001));
        Due.type(y, "?");
        due.is("full: read", y.read(), Due.M);
    }

    private static void firstOfSeveralInBlock() {
        NumberRows2 x = States.used();
        NumberRows2 full = States.full();
        due.says("of several the first one: OUTSIDE before STATE, block");
        due.is("an office that is none", x.block(100, 10, 12), Due.OUTSIDE);
        due.is("a row that is too large", x.block(0, 10, 20000000000L), Due.OUTSIDE);
        due.is("a row that is too small", x.block(0, -1, 4), Due.OUTSIDE);
        due.says("of several the first one: OUTSIDE before ROOM, block");
        due.is("an office that is none", full.block(-1, 100, 100), Due.OUTSIDE);
        due.is("a row that is none", full.block(0, 100, 99), Due.OUTSIDE);
        due.says("of several the first one: STATE before ROOM, block");
        due.is("a serial in the first block", full.block(0, 10, 10), Due.STATE);
        due.is("a serial in the last block", full.block(0, 3002, 3003), Due.STATE);
        due.says("of several the first one: OUTSIDE before STATE and ROOM, block");
        due.is("an office that is none", full.block(100, 10, 10), Due.OUTSIDE);
    }

    private static void firstOfSeveralInBar() {
        NumberRows2 full = States.full();
        due.says("of several the first one: OUTSIDE before ROOM, bar");
        due.is("a row that is none", full.bar(5, 4), Due.OUTSIDE);
        due.is("a row that is too small", full.bar(-1, 4), Due.OUTSIDE);
        due.is("a row that is too large", full.bar(4, Due.M), Due.OUTSIDE);
    }

    private static void firstOfSeveralInMap() {
        NumberRows2 x = States.used();
        NumberRows2 full = States.full();
        due.says("of several the first one: UNKNOWN before OUTSIDE, map");
        due.is("a sender that is none", x.map(100, 5, States.BARRED), Due.UNKNOWN);
        due.is("a sender that is none", x.map(-1, 5, 0), Due.UNKNOWN);
        due.is("a reference below 0", x.map(0, -1, Due.number(0, 24)), Due.UNKNOWN);
        due.says("of several the first one: UNKNOWN before STATE, map");
        due.is("another number's reference", x.map(0, 5, States.BARRED), Due.UNKNOWN);
        due.says("of several the first one: UNKNOWN before ROOM, map");
        due.is("a new reference", full.map(50, 7, States.BARRED), Due.UNKNOWN);
        due.says("of several the first one: OUTSIDE before ROOM, map");
        due.is("a sender that is none", full.map(100, 7, States.UNNAMED), Due.OUTSIDE);
        due.is("a reference below 0", full.map(50, -1, States.UNNAMED), Due.OUTSIDE);
        due.says("of several the first one: STATE before ROOM, map");
        due.is("another number's reference", full.map(0, 5, States.UNNAMED), Due.STATE);
        due.says("of several the first one: UNKNOWN before OUTSIDE and ROOM, map");
        due.is("a sender that is none", full.map(100, 7, 0), Due.UNKNOWN);
    }

    private static void unknownBeforeAnException() {
        due.says("UNKNOWN (there is no such number): before an exception");
        due.is("letter(M - 1, 9)", new NumberRows2().letter(Due.M - 1, 9), Due.UNKNOWN);
        due.is("letter(11 M, -1)", new NumberRows2().letter(11 * Due.M, -1), Due.UNKNOWN);
    }

    private static void blockChangesNothing() {
        changesNothing("block, OUTSIDE for its office", x -> x.block(100, 13, 19), Due.OUTSIDE);
        changesNothing("block, OUTSIDE for its row", x -> x.block(0, 19, 13), Due.OUTSIDE);
        changesNothing("block, OUTSIDE for its end", x -> x.block(0, 9000, 20000000000L), Due.OUTSIDE);
        changesNothing("block, STATE at its end", x -> x.block(2, 13, 20), Due.STATE);
        changesNothing("block, STATE at its start", x -> x.block(2, 12, 19), Due.STATE);
        changesNothingInFull("block, ROOM", x -> x.block(2, 13, 19), Due.ROOM);
        changesNothingInFull("block, ROOM, an office that has blocks", x -> x.block(0, 13, 19), Due.ROOM);
    }

    private static void nextChangesNothing() {
        changesNothing("next, OUTSIDE for its office", x -> x.next(100, 0), Due.OUTSIDE);
        changesNothing("next, OUTSIDE for its office", x -> x.next(-1, 0), Due.OUTSIDE);
        changesNothing("next, OUTSIDE for its service", x -> x.next(0, 10), Due.OUTSIDE);
        changesNothing("next, OUTSIDE for its service", x -> x.next(1, -1), Due.OUTSIDE);
    }

    private static void letterChangesNothing() {
        changesNothing("letter, UNKNOWN", x -> x.letter(Due.M - 1, 0), Due.UNKNOWN);
        changesNothing("letter, an exception below", x -> thrownByLetter(x, -1), 1);
        changesNothing("letter, an exception above", x -> thrownByLetter(x, 9), 1);
    }

    private static int thrownByLetter(NumberRows2 x, int i) {
        try {
            x.letter(States.TEN, i);
            return 0;
        } catch (ArrayIndexOutOfBoundsException e) {
            return 1;
        }
    }

    private static void barChangesNothing() {
        changesNothing("bar, OUTSIDE below", x -> x.bar(-1, 4000), Due.OUTSIDE);
        changesNothing("bar, OUTSIDE above", x -> x.bar(0, Due.M), Due.OUTSIDE);
        changesNothing("bar, OUTSIDE, no row", x -> x.bar(20, 10), Due.OUTSIDE);
        changesNothingInFull("bar, ROOM", x -> x.bar(0, 4000), Due.ROOM);
        changesNothingInFull("bar, ROOM, all serials", x -> x.bar(0, Due.M - 1), Due.ROOM);
    }

    private static void oldChangesNothing() {
        changesNothing("old, OUTSIDE below", x -> x.old(-1), Due.OUTSIDE);
        changesNothing("old, OUTSIDE above", x -> x.old(10000000000L), Due.OUTSIDE);
        changesNothing("old, OUTSIDE for a given number", x -> x.old(States.TEN), Due.OUTSIDE);
    }

    private static void mapChangesNothing() {
        changesNothing("map, UNKNOWN", x -> x.map(50, 7, States.BARRED), Due.UNKNOWN);
        changesNothing("map, UNKNOWN, not given yet", x -> x.map(0, 5, Due.number(0, 24)), Due.UNKNOWN);
        changesNothing("map, OUTSIDE for its sender", x -> x.map(100, 7, States.TEN), Due.OUTSIDE);
        changesNothing("map, OUTSIDE for its reference", x -> x.map(0, -1, States.TEN), Due.OUTSIDE);
        changesNothing("map, STATE, it had one", x -> x.map(0, 5, States.TWENTY), Due.STATE);
        changesNothing("map, STATE, it had none", x -> x.map(0, 5, States.UNNAMED), Due.STATE);
        changesNothingInFull("map, ROOM", x -> x.map(50, 7, States.UNNAMED), Due.ROOM);
    }

    private static void namedChangesNothing() {
        changesNothing("named, UNKNOWN", x -> x.named(50, 7), Due.UNKNOWN);
        changesNothing("named, UNKNOWN, no sender", x -> x.named(-1, 5), Due.UNKNOWN);
    }

    /** No refusals, but answers of which the document names no change either. */
    private static void callsThatAskChangeNothing() {
        changesNothing("next, 0", x -> x.next(50, 0), 0);
        changesNothing("letter", x -> x.letter(States.TEN, 0), '0');
        changesNothing("given", x -> x.given(States.TEN) ? 1 : 0, 1);
        changesNothing("old", x -> x.old(0), Due.number(0, 20000000000L));
        changesNothing("map, 0", x -> x.map(0, 5, States.TEN), 0);
        changesNothing("named", x -> x.named(0, 5), States.TEN);
    }

    private static void changesNothing(String what, Call call, long want) {
        compare(what, States.used(), States.used(), call, want);
        changesNothingInFull(what, call, want);
    }

    private static void changesNothingInFull(String what, Call call, long want) {
        compare(what + ", in a full object", States.full(), States.full(), call, want);
    }

    private static void compare(String what, NumberRows2 x, NumberRows2 same, Call call, long want) {
        due.says("A call that is refused, or throws, changes nothing: " + what);
        due.is("the call", call.on(x), want);
        long[] got = later(x);
        long[] wanted = later(same);
        if (!Arrays.equals(got, wanted)) {
            due.tell("later calls answer " + Arrays.toString(got) + ", due are " + Arrays.toString(wanted));
        }
    }

    /** What 41 later calls answer; a full object has been called 465 times before. */
    private static long[] later(NumberRows2 x) {
        return new long[] {
            x.read(),
            x.given(States.TEN) ? 1 : 0, x.given(States.ELEVEN) ? 1 : 0, x.given(States.TWENTY) ? 1 : 0,
            x.given(States.UNNAMED) ? 1 : 0, x.given(States.BARRED) ? 1 : 0, x.given(Due.number(0, 24)) ? 1 : 0,
            x.named(0, 5), x.named(1, 5), x.named(0, 6), x.named(0, -1), x.named(50, 7), x.named(100, 7),
            x.named(2, 100), x.named(99, 102), x.named(1, 101),
            x.next(0, 0), x.next(0, 0), x.next(1, 0), x.next(1, 9), x.next(2, 0), x.next(7, 0), x.next(8, 0),
            x.next(50, 0),
            x.map(50, 7, States.UNNAMED), x.map(0, 5, States.TEN), x.map(0, 8, States.TEN),
            x.block(2, 13, 19), x.block(3, 9000, 9001), x.next(2, 0), x.next(3, 0),
            x.bar(10, 11), x.bar(0, 4000), x.next(0, 0), x.next(1, 0), x.next(8, 0),
            x.given(States.TEN) ? 1 : 0, x.named(0, 8),
            typed(x), x.read(),
        };
    }

    private static long typed(NumberRows2 x) {
        x.type('0');
        return x.read();
    }
}
