/** Holds answers against the document's sentences, and ends the test with exit code 1 if one is not as due. */
final class Due {
    static final long M = 27512614111L;
    static final int UNKNOWN = -101;
    static final int OUTSIDE = -102;
    static final int STATE = -103;
    static final int ROOM = -104;

    private String sentence = "";
    private int wrong = 0;

    /** The words of the document that the next answers are held against. */
    void says(String words) {
        sentence = words;
    }

    void is(String call, long got, long want) {
        if (got != want) {
            tell(call + " answered " + got + ", due is " + want);
        }
    }

    void is(String call, boolean got, boolean want) {
        is(call, got ? 1 : 0, want ? 1 : 0);
    }

    void letterThrows(NumberRows2 x, long number, int i) {
        String call = "letter(" + number + ", " + i + ")";
        try {
            tell(call + " answered " + x.letter(number, i) + ", due is an exception");
        } catch (RuntimeException e) {
            if (e.getClass() != ArrayIndexOutOfBoundsException.class) {
                tell(call + " threw " + e + ", due is ArrayIndexOutOfBoundsException");
            }
        }
    }

    /** The form of a number, its letters asked of a new object. */
    void form(long number, String want) {
        String got = form(number);
        if (!got.equals(want)) {
            tell("the form of " + number + " is " + got + ", due is " + want);
        }
    }

    /** A text that is typed into a new object and read. */
    void read(String text, long want) {
        is("read() of '" + text + "'", typeAndRead(new NumberRows2(), text), want);
    }

    void tell(String text) {
        wrong++;
        System.out.println(sentence.isEmpty() ? text : "\"" + sentence + "\": " + text);
    }

    void end() {
        if (wrong != 0) {
            System.out.println(wrong + " answers are not as due");
            System.exit(1);
        }
    }

    static long number(int service, long serial) {
        return (service + 1) * M + serial;
    }

    static void type(NumberRows2 x, String text) {
        for (char c : text.toCharArray()) {
            x.type(c);
        }
    }

    static long typeAndRead(NumberRows2 x, String text) {
        type(x, text);
        return x.read();
    }

    static String form(long number) {
        NumberRows2 x = new NumberRows2();
        StringBuilder form = new StringBuilder();
        for (int i = 0; i < 9; i++) {
            form.append((char) x.letter(number, i));
        }
        return form.toString();
    }
}
