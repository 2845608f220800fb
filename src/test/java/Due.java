/** Counts the answers that are not as due, and ends the test with exit code 1 if there was one. */
final class Due {
    static final long M = 27512614111L;
    static final int UNKNOWN = -101;
    static final int OUTSIDE = -102;
    static final int STATE = -103;
    static final int ROOM = -104;

    private int wrong = 0;

    void is(String call, long got, long want) {
        if (got != want) {
            tell(call + " answered " + got + ", due is " + want);
        }
    }

    void is(String call, boolean got, boolean want) {
        is(call, got ? 1 : 0, want ? 1 : 0);
    }

    void letterThrows(NumberRows2 x, long number, int i) {
        String call = "letter(" + number + ", " + i + ")";
        try {
            tell(call + " answered " + x.letter(number, i) + ", due is an exception");
        } catch (RuntimeException e) {
            if (e.getClass() != ArrayIndexOutOfBoundsException.class) {
                tell(call + " threw " + e + ", due is ArrayIndexOutOfBoundsException");
            }
        }
    }

    void tell(String text) {
        wrong++;
        System.out.println(text);
    }

    void end() {
        if (wrong != 0) {
            System.out.println(wrong + " answers are not as due");
            System.exit(1);
        }
    }

    static long number(int service, long serial) {
        return (service + 1) * M + serial;
    }

    static void type(NumberRows2 x, String text) {
        for (char c : text.toCharArray()) {
            x.type(c);
        }
    }

    static long typeAndRead(NumberRows2 x, String text) {
        type(x, text);
        return x.read();
    }

    static String form(NumberRows2 x, long number) {
        StringBuilder form = new StringBuilder();
        for (int i = 0; i < 9; i++) {
            form.append((char) x.letter(number, i));
        }
        return form.toString();
    }
}
