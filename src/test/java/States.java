/** Objects that were used: one with a little of everything, and one that is full. */
final class States {
    /** Given, with the services 0, 1, 2 and 4. */
    static final long TEN = Due.number(0, 10);
    static final long ELEVEN = Due.number(1, 11);
    static final long TWENTY = Due.number(2, 20);
    static final long UNNAMED = Due.number(4, 23);
    /** Given, and barred since. */
    static final long BARRED = Due.number(3, 21);

    private States() {
    }

    /** 19 calls: three blocks, five numbers of which one is barred, two barred rows, three names, six characters. */
    static NumberRows2 used() {
        NumberRows2 x = new NumberRows2();
        x.block(0, 10, 12);
        x.block(1, 20, 29);
        x.block(0, 0, 4);
        x.next(0, 0);
        x.next(0, 1);
        x.next(1, 2);
        x.next(1, 3);
        x.bar(21, 22);
        x.next(1, 4);
        x.bar(12, 12);
        x.map(0, 5, TEN);
        x.map(1, 5, ELEVEN);
        x.map(0, 6, TWENTY);
        Due.type(x, "0000 0");
        return x;
    }

    /** 465 calls: the same with 50 blocks, 50 barred rows, 300 names and 60 characters. */
    static NumberRows2 full() {
        NumberRows2 x = used();
        for (int b = 0; b < 46; b++) {
            x.block(7, 1000 + 10 * b, 1001 + 10 * b);
        }
        x.block(8, 3000, 3002);
        for (int r = 0; r < 47; r++) {
            x.bar(5000 + 10 * r, 5001 + 10 * r);
        }
        x.bar(3000, 3000);
        fillNames(x);
        Due.type(x, "0000" + " ".repeat(50));
        return x;
    }

    private static void fillNames(NumberRows2 x) {
        long[] numbers = {TEN, ELEVEN, TWENTY};
        for (int k = 0; k < 3; k++) {
            for (int sender = 2; sender < 100; sender++) {
                x.map(sender, 100 + k, numbers[k]);
            }
        }
        x.map(0, 100, ELEVEN);
        x.map(1, 100, TEN);
        x.map(1, 101, TWENTY);
    }
}
