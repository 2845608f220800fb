/** No call throws, but letter where the document says it, for any arguments in any state (LANGUAGE.md, rule 7). */
public final class ExtremesTest {
    private static final Due due = new Due();
    private static final int[] INTS = {Integer.MIN_VALUE, Integer.MIN_VALUE + 1, -100, -1, 0, 1, 8, 9, 10, 99, 100, 101,
        Integer.MAX_VALUE - 1, Integer.MAX_VALUE};
    private static final long[] LONGS = {Long.MIN_VALUE, Long.MIN_VALUE + 1, -Due.M, -1, 0, 1, 10, 3000, 9999999999L,
        10000000000L, 19999999999L, 20000000000L, Due.M - 1, Due.M, States.TEN, 11 * Due.M - 1, 11 * Due.M,
        Long.MAX_VALUE - 1, Long.MAX_VALUE};

    private interface Call {
        long on(NumberRows2 x);
    }

    public static void main(String[] args) {
        due.says("nothing but what the document names is thrown");
        for (int a : INTS) {
            everyState("type(" + a + ")", x -> {
                x.type(a);
                return x.read();
            });
            for (int b : INTS) {
                everyState("next(" + a + ", " + b + ")", x -> x.next(a, b));
            }
            for (long b : LONGS) {
                everyState("letter(" + b + ", " + a + ")", x -> letter(x, b, a));
                everyState("named(" + a + ", " + b + ")", x -> x.named(a, b));
                for (long c : LONGS) {
                    everyState("block(" + a + ", " + b + ", " + c + ")", x -> x.block(a, b, c));
                    everyState("map(" + a + ", " + b + ", " + c + ")", x -> x.map(a, b, c));
                }
            }
        }
        for (long a : LONGS) {
            everyState("given(" + a + ")", x -> x.given(a) ? 1 : 0);
            everyState("old(" + a + ")", x -> x.old(a));
            for (long b : LONGS) {
                everyState("bar(" + a + ", " + b + ")", x -> x.bar(a, b));
            }
        }
        due.end();
    }

    private static void everyState(String what, Call call) {
        try {
            call.on(new NumberRows2());
            call.on(States.used());
            call.on(States.full());
        } catch (RuntimeException e) {
            due.tell(what + " threw " + e);
        }
    }

    private static long letter(NumberRows2 x, long number, int i) {
        boolean isNumber = number >= Due.M && number < 11 * Due.M;
        if (isNumber && (i < 0 || i > 8)) {
            due.letterThrows(x, number, i);
            return 0;
        }
        return x.letter(number, i);
    }
}
